/-! ===== looking on ===== -/
/-- of a CELL: first, last, wet STEPS, lasting, longest, first frost -/
abbrev wK : Type := Int32 × Int32 × Int32 × Int32 × Int32 × Int32
def wk1 (a m t : Int32) (s : wK) : wK :=
  if 0 < a.toInt then (if s.1.toInt = -1 then t else s.1, t, s.2.2.1 + 1, s.2.2.2.1 + 1, fi_max s.2.2.2.2.1 (s.2.2.2.1 + 1), if m.toInt < 0 ∧ s.2.2.2.2.2.toInt = -1 then t else s.2.2.2.2.2)
  else (s.1, s.2.1, s.2.2.1, 0, s.2.2.2.2.1, s.2.2.2.2.2)
set_option maxRecDepth 8000 in
theorem wk1_y {a m t : Int32} {s : wK} (h : 0 < a.toInt) : wk1 a m t s = (if s.1.toInt = -1 then t else s.1, t, s.2.2.1 + 1, s.2.2.2.1 + 1, fi_max s.2.2.2.2.1 (s.2.2.2.1 + 1), if m.toInt < 0 ∧ s.2.2.2.2.2.toInt = -1 then t else s.2.2.2.2.2) := if_pos h
set_option maxRecDepth 8000 in
theorem wk1_n {a m t : Int32} {s : wK} (h : ¬ 0 < a.toInt) : wk1 a m t s = (s.1, s.2.1, s.2.2.1, 0, s.2.2.2.2.1, s.2.2.2.2.2) := if_neg h
def wlkF (wa wm : Nat → Int32) : Nat → wK
  | 0 => (-1, -1, 0, 0, 0, -1)
  | k + 1 => wk1 (wa k) (wm k) (Int32.ofNat k) (wlkF wa wm k)
set_option maxRecDepth 8000 in
theorem wlkF_s {wa wm : Nat → Int32} {k : Nat} : wlkF wa wm (k + 1) = wk1 (wa k) (wm k) (Int32.ofNat k) (wlkF wa wm k) := rfl
/-- as the class keeps it -/
def wT (I : Nat → Nat → Int32) (c : Nat) : wK := (I 195 c, I 196 c, I 197 c, I 198 c, I 199 c, I 200 c)
set_option maxRecDepth 8000 in
theorem wT_eq {I I' : Nat → Nat → Int32} {c : Nat} (h1 : I' 195 c = I 195 c) (h2 : I' 196 c = I 196 c) (h3 : I' 197 c = I 197 c) (h4 : I' 198 c = I 198 c) (h5 : I' 199 c = I 199 c) (h6 : I' 200 c = I 200 c) : wT I' c = wT I c := by
  unfold wT
  rw [h1, h2, h3, h4, h5, h6]
set_option maxRecDepth 8000 in
theorem up6 {I : Nat → Nat → Int32} {k : Nat} {x1 x2 x3 x4 x5 x6 : Int32} : (∀ a, (a < 195 ∨ 200 < a) → (dw_up (dw_up (dw_up (dw_up (dw_up (dw_up I 195 k x1) 196 k x2) 197 k x3) 198 k x4) 199 k x5) 200 k x6) a = I a) ∧ (∀ j, j ≠ k → wT (dw_up (dw_up (dw_up (dw_up (dw_up (dw_up I 195 k x1) 196 k x2) 197 k x3) 198 k x4) 199 k x5) 200 k x6) j = wT I j) ∧ wT (dw_up (dw_up (dw_up (dw_up (dw_up (dw_up I 195 k x1) 196 k x2) 197 k x3) 198 k x4) 199 k x5) 200 k x6) k = (x1, x2, x3, x4, x5, x6) := by
  refine ⟨fun a ha => ?_, fun j hj => ?_, ?_⟩
  · exact ((up_row (show a ≠ 200 by omega)).trans ((up_row (show a ≠ 199 by omega)).trans ((up_row (show a ≠ 198 by omega)).trans ((up_row (show a ≠ 197 by omega)).trans ((up_row (show a ≠ 196 by omega)).trans (up_row (show a ≠ 195 by omega)))))))
  · exact wT_eq ((congrFun (up_row (show (195 : Nat) ≠ 200 by decide)) _).trans ((congrFun (up_row (show (195 : Nat) ≠ 199 by decide)) _).trans ((congrFun (up_row (show (195 : Nat) ≠ 198 by decide)) _).trans ((congrFun (up_row (show (195 : Nat) ≠ 197 by decide)) _).trans ((congrFun (up_row (show (195 : Nat) ≠ 196 by decide)) _).trans (up_fld hj)))))) ((congrFun (up_row (show (196 : Nat) ≠ 200 by decide)) _).trans ((congrFun (up_row (show (196 : Nat) ≠ 199 by decide)) _).trans ((congrFun (up_row (show (196 : Nat) ≠ 198 by decide)) _).trans ((congrFun (up_row (show (196 : Nat) ≠ 197 by decide)) _).trans ((up_fld hj).trans (congrFun (up_row (show (196 : Nat) ≠ 195 by decide)) _)))))) ((congrFun (up_row (show (197 : Nat) ≠ 200 by decide)) _).trans ((congrFun (up_row (show (197 : Nat) ≠ 199 by decide)) _).trans ((congrFun (up_row (show (197 : Nat) ≠ 198 by decide)) _).trans ((up_fld hj).trans ((congrFun (up_row (show (197 : Nat) ≠ 196 by decide)) _).trans (congrFun (up_row (show (197 : Nat) ≠ 195 by decide)) _)))))) ((congrFun (up_row (show (198 : Nat) ≠ 200 by decide)) _).trans ((congrFun (up_row (show (198 : Nat) ≠ 199 by decide)) _).trans ((up_fld hj).trans ((congrFun (up_row (show (198 : Nat) ≠ 197 by decide)) _).trans ((congrFun (up_row (show (198 : Nat) ≠ 196 by decide)) _).trans (congrFun (up_row (show (198 : Nat) ≠ 195 by decide)) _)))))) ((congrFun (up_row (show (199 : Nat) ≠ 200 by decide)) _).trans ((up_fld hj).trans ((congrFun (up_row (show (199 : Nat) ≠ 198 by decide)) _).trans ((congrFun (up_row (show (199 : Nat) ≠ 197 by decide)) _).trans ((congrFun (up_row (show (199 : Nat) ≠ 196 by decide)) _).trans (congrFun (up_row (show (199 : Nat) ≠ 195 by decide)) _)))))) ((up_fld hj).trans ((congrFun (up_row (show (200 : Nat) ≠ 199 by decide)) _).trans ((congrFun (up_row (show (200 : Nat) ≠ 198 by decide)) _).trans ((congrFun (up_row (show (200 : Nat) ≠ 197 by decide)) _).trans ((congrFun (up_row (show (200 : Nat) ≠ 196 by decide)) _).trans (congrFun (up_row (show (200 : Nat) ≠ 195 by decide)) _))))))
  · unfold wT
    rw [show (dw_up (dw_up (dw_up (dw_up (dw_up (dw_up I 195 k x1) 196 k x2) 197 k x3) 198 k x4) 199 k x5) 200 k x6) 195 k = x1 from (congrFun (up_row (show (195 : Nat) ≠ 200 by decide)) _).trans ((congrFun (up_row (show (195 : Nat) ≠ 199 by decide)) _).trans ((congrFun (up_row (show (195 : Nat) ≠ 198 by decide)) _).trans ((congrFun (up_row (show (195 : Nat) ≠ 197 by decide)) _).trans ((congrFun (up_row (show (195 : Nat) ≠ 196 by decide)) _).trans (up_same))))), show (dw_up (dw_up (dw_up (dw_up (dw_up (dw_up I 195 k x1) 196 k x2) 197 k x3) 198 k x4) 199 k x5) 200 k x6) 196 k = x2 from (congrFun (up_row (show (196 : Nat) ≠ 200 by decide)) _).trans ((congrFun (up_row (show (196 : Nat) ≠ 199 by decide)) _).trans ((congrFun (up_row (show (196 : Nat) ≠ 198 by decide)) _).trans ((congrFun (up_row (show (196 : Nat) ≠ 197 by decide)) _).trans (up_same)))), show (dw_up (dw_up (dw_up (dw_up (dw_up (dw_up I 195 k x1) 196 k x2) 197 k x3) 198 k x4) 199 k x5) 200 k x6) 197 k = x3 from (congrFun (up_row (show (197 : Nat) ≠ 200 by decide)) _).trans ((congrFun (up_row (show (197 : Nat) ≠ 199 by decide)) _).trans ((congrFun (up_row (show (197 : Nat) ≠ 198 by decide)) _).trans (up_same))), show (dw_up (dw_up (dw_up (dw_up (dw_up (dw_up I 195 k x1) 196 k x2) 197 k x3) 198 k x4) 199 k x5) 200 k x6) 198 k = x4 from (congrFun (up_row (show (198 : Nat) ≠ 200 by decide)) _).trans ((congrFun (up_row (show (198 : Nat) ≠ 199 by decide)) _).trans (up_same)), show (dw_up (dw_up (dw_up (dw_up (dw_up (dw_up I 195 k x1) 196 k x2) 197 k x3) 198 k x4) 199 k x5) 200 k x6) 199 k = x5 from (congrFun (up_row (show (199 : Nat) ≠ 200 by decide)) _).trans (up_same), show (dw_up (dw_up (dw_up (dw_up (dw_up (dw_up I 195 k x1) 196 k x2) 197 k x3) 198 k x4) 199 k x5) 200 k x6) 200 k = x6 from up_same]
set_option maxRecDepth 8000 in
set_option maxHeartbeats 4000000 in
theorem v_seeWet {n : Nat} {I : Nat → Nat → Int32} {J : Nat → Nat → Int64} {K : dw_K} {c t z a m : Int32} {k : Nat} (hc : c.toInt = k) (hk9 : k < 144) (ha : 0 < a.toInt) (hz : (m.toInt < 0 ∧ z.toInt = 1) ∨ (0 ≤ m.toInt ∧ z.toInt = 0))
    (hk : ∀ I' : Nat → Nat → Int32, (∀ a, (a < 195 ∨ 200 < a) → I' a = I a) → (∀ j, j ≠ k → wT I' j = wT I j) → wT I' k = wk1 a m t (wT I k) → K none (n, SH1, I', J)) : t_X10_seeWet [.ref 194, .int c, .int t, .int z] (n, SH1, I, J) K := by
  have cm1 : (-1 : Int32).toInt = -1 := rfl
  have hcn : c.toInt.toNat = k := by omega
  refine q_body (Nat.le_of_ble_eq_true rfl) ?_
  refine q_ald rfl rfl ?_
  refine q_getr rfl sk_194 sr_194_0 ?_
  refine q_ild rfl rfl ?_
  refine q_ald rfl rfl ?_
  refine q_getr rfl sk_194 sr_194_0 ?_
  refine q_ild rfl rfl ?_
  refine q_xald rfl (Or.inl rfl) sk_195 sn_195 (by omega) (by omega) ?_
  show dw_ok (pr_X10_seeWet K) 11 0 0 [some (.ref 194), some (.int c), some (.int t), some (.int z)] [.int (I 195 (c).toInt.toNat), .int c, .ref 195] (n, SH1, I, J)
  rw [hcn]
  refine q_ic rfl ?_
  refine q_icmp (c := 1) rfl (by decide) (fun y1 => ?_) (fun y1 => ?_)
  · have y1 : ((I 195 k)).toInt ≠ (-1 : Int) := y1
    refine q_ald rfl rfl ?_
    refine q_getr rfl sk_194 sr_194_0 ?_
    refine q_ild rfl rfl ?_
    refine q_xald rfl (Or.inl rfl) sk_195 sn_195 (by omega) (by omega) ?_
    show dw_ok (pr_X10_seeWet K) 25 0 0 [some (.ref 194), some (.int c), some (.int t), some (.int z)] [.int (I 195 (c).toInt.toNat), .int c, .ref 195] (n, SH1, I, J)
    rw [hcn]
    refine q_iast rfl sk_195 sn_195 (by omega) (by omega) ?_
    show dw_ok (pr_X10_seeWet K) 26 0 0 [some (.ref 194), some (.int c), some (.int t), some (.int z)] [] (n, SH1, (dw_up I 195 (c).toInt.toNat (I 195 k)), J)
    rw [hcn]
    refine q_ald rfl rfl ?_
    refine q_getr rfl sk_194 sr_194_1 ?_
    refine q_ild rfl rfl ?_
    refine q_ild rfl rfl ?_
    refine q_iast rfl sk_196 sn_196 (by omega) (by omega) ?_
    show dw_ok (pr_X10_seeWet K) 33 0 0 [some (.ref 194), some (.int c), some (.int t), some (.int z)] [] (n, SH1, (dw_up (dw_up I 195 k (I 195 k)) 196 (c).toInt.toNat t), J)
    rw [hcn]
    refine q_ald rfl rfl ?_
    refine q_getr rfl sk_194 sr_194_2 ?_
    refine q_ild rfl rfl ?_
    refine q_dup2 rfl ?_
    refine q_xald rfl (Or.inl rfl) sk_197 sn_197 (by omega) (by omega) ?_
    show dw_ok (pr_X10_seeWet K) 40 0 0 [some (.ref 194), some (.int c), some (.int t), some (.int z)] [.int ((dw_up (dw_up I 195 k (I 195 k)) 196 k t) 197 (c).toInt.toNat), .int c, .ref 197] (n, SH1, (dw_up (dw_up I 195 k (I 195 k)) 196 k t), J)
    rw [hcn]
    show dw_ok (pr_X10_seeWet K) 40 0 0 [some (.ref 194), some (.int c), some (.int t), some (.int z)] [.int ((dw_up (dw_up I 195 k (I 195 k)) 196 k t) 197 k), .int c, .ref 197] (n, SH1, (dw_up (dw_up I 195 k (I 195 k)) 196 k t), J)
    rw [show ((dw_up (dw_up I 195 k (I 195 k)) 196 k t) 197 k) = (I 197 k) from ((up_ne (Or.inl (by decide))).trans (up_ne (Or.inl (by decide))))]
    refine q_ic rfl ?_
    refine q_add rfl ?_
    refine q_iast rfl sk_197 sn_197 (by omega) (by omega) ?_
    show dw_ok (pr_X10_seeWet K) 43 0 0 [some (.ref 194), some (.int c), some (.int t), some (.int z)] [] (n, SH1, (dw_up (dw_up (dw_up I 195 k (I 195 k)) 196 k t) 197 (c).toInt.toNat ((I 197 k) + (1 : Int32))), J)
    rw [hcn]
    refine q_ald rfl rfl ?_
    refine q_getr rfl sk_194 sr_194_3 ?_
    refine q_ild rfl rfl ?_
    refine q_dup2 rfl ?_
    refine q_xald rfl (Or.inl rfl) sk_198 sn_198 (by omega) (by omega) ?_
    show dw_ok (pr_X10_seeWet K) 50 0 0 [some (.ref 194), some (.int c), some (.int t), some (.int z)] [.int ((dw_up (dw_up (dw_up I 195 k (I 195 k)) 196 k t) 197 k ((I 197 k) + (1 : Int32))) 198 (c).toInt.toNat), .int c, .ref 198] (n, SH1, (dw_up (dw_up (dw_up I 195 k (I 195 k)) 196 k t) 197 k ((I 197 k) + (1 : Int32))), J)
    rw [hcn]
    show dw_ok (pr_X10_seeWet K) 50 0 0 [some (.ref 194), some (.int c), some (.int t), some (.int z)] [.int ((dw_up (dw_up (dw_up I 195 k (I 195 k)) 196 k t) 197 k ((I 197 k) + (1 : Int32))) 198 k), .int c, .ref 198] (n, SH1, (dw_up (dw_up (dw_up I 195 k (I 195 k)) 196 k t) 197 k ((I 197 k) + (1 : Int32))), J)
    rw [show ((dw_up (dw_up (dw_up I 195 k (I 195 k)) 196 k t) 197 k ((I 197 k) + (1 : Int32))) 198 k) = (I 198 k) from ((up_ne (Or.inl (by decide))).trans ((up_ne (Or.inl (by decide))).trans (up_ne (Or.inl (by decide)))))]
    refine q_ic rfl ?_
    refine q_add rfl ?_
    refine q_iast rfl sk_198 sn_198 (by omega) (by omega) ?_
    show dw_ok (pr_X10_seeWet K) 53 0 0 [some (.ref 194), some (.int c), some (.int t), some (.int z)] [] (n, SH1, (dw_up (dw_up (dw_up (dw_up I 195 k (I 195 k)) 196 k t) 197 k ((I 197 k) + (1 : Int32))) 198 (c).toInt.toNat ((I 198 k) + (1 : Int32))), J)
    rw [hcn]
    refine q_ald rfl rfl ?_
    refine q_getr rfl sk_194 sr_194_4 ?_
    refine q_ild rfl rfl ?_
    refine q_ald rfl rfl ?_
    refine q_getr rfl sk_194 sr_194_4 ?_
    refine q_ild rfl rfl ?_
    refine q_xald rfl (Or.inl rfl) sk_199 sn_199 (by omega) (by omega) ?_
    show dw_ok (pr_X10_seeWet K) 64 0 0 [some (.ref 194), some (.int c), some (.int t), some (.int z)] [.int ((dw_up (dw_up (dw_up (dw_up I 195 k (I 195 k)) 196 k t) 197 k ((I 197 k) + (1 : Int32))) 198 k ((I 198 k) + (1 : Int32))) 199 (c).toInt.toNat), .int c, .ref 199] (n, SH1, (dw_up (dw_up (dw_up (dw_up I 195 k (I 195 k)) 196 k t) 197 k ((I 197 k) + (1 : Int32))) 198 k ((I 198 k) + (1 : Int32))), J)
    rw [hcn]
    show dw_ok (pr_X10_seeWet K) 64 0 0 [some (.ref 194), some (.int c), some (.int t), some (.int z)] [.int ((dw_up (dw_up (dw_up (dw_up I 195 k (I 195 k)) 196 k t) 197 k ((I 197 k) + (1 : Int32))) 198 k ((I 198 k) + (1 : Int32))) 199 k), .int c, .ref 199] (n, SH1, (dw_up (dw_up (dw_up (dw_up I 195 k (I 195 k)) 196 k t) 197 k ((I 197 k) + (1 : Int32))) 198 k ((I 198 k) + (1 : Int32))), J)
    rw [show ((dw_up (dw_up (dw_up (dw_up I 195 k (I 195 k)) 196 k t) 197 k ((I 197 k) + (1 : Int32))) 198 k ((I 198 k) + (1 : Int32))) 199 k) = (I 199 k) from ((up_ne (Or.inl (by decide))).trans ((up_ne (Or.inl (by decide))).trans ((up_ne (Or.inl (by decide))).trans (up_ne (Or.inl (by decide))))))]
    refine q_ald rfl rfl ?_
    refine q_getr rfl sk_194 sr_194_3 ?_
    refine q_ild rfl rfl ?_
    refine q_xald rfl (Or.inl rfl) sk_198 sn_198 (by omega) (by omega) ?_
    show dw_ok (pr_X10_seeWet K) 70 0 0 [some (.ref 194), some (.int c), some (.int t), some (.int z)] [.int ((dw_up (dw_up (dw_up (dw_up I 195 k (I 195 k)) 196 k t) 197 k ((I 197 k) + (1 : Int32))) 198 k ((I 198 k) + (1 : Int32))) 198 (c).toInt.toNat), .int (I 199 k), .int c, .ref 199] (n, SH1, (dw_up (dw_up (dw_up (dw_up I 195 k (I 195 k)) 196 k t) 197 k ((I 197 k) + (1 : Int32))) 198 k ((I 198 k) + (1 : Int32))), J)
    rw [hcn]
    show dw_ok (pr_X10_seeWet K) 70 0 0 [some (.ref 194), some (.int c), some (.int t), some (.int z)] [.int ((dw_up (dw_up (dw_up (dw_up I 195 k (I 195 k)) 196 k t) 197 k ((I 197 k) + (1 : Int32))) 198 k ((I 198 k) + (1 : Int32))) 198 k), .int (I 199 k), .int c, .ref 199] (n, SH1, (dw_up (dw_up (dw_up (dw_up I 195 k (I 195 k)) 196 k t) 197 k ((I 197 k) + (1 : Int32))) 198 k ((I 198 k) + (1 : Int32))), J)
    rw [show ((dw_up (dw_up (dw_up (dw_up I 195 k (I 195 k)) 196 k t) 197 k ((I 197 k) + (1 : Int32))) 198 k ((I 198 k) + (1 : Int32))) 198 k) = ((I 198 k) + (1 : Int32)) from up_same]
    refine q_max rfl rfl ?_
    refine q_iast rfl sk_199 sn_199 (by omega) (by omega) ?_
    show dw_ok (pr_X10_seeWet K) 74 0 0 [some (.ref 194), some (.int c), some (.int t), some (.int z)] [] (n, SH1, (dw_up (dw_up (dw_up (dw_up (dw_up I 195 k (I 195 k)) 196 k t) 197 k ((I 197 k) + (1 : Int32))) 198 k ((I 198 k) + (1 : Int32))) 199 (c).toInt.toNat (fi_max (I 199 k) ((I 198 k) + (1 : Int32)))), J)
    rw [hcn]
    refine q_ald rfl rfl ?_
    refine q_getr rfl sk_194 sr_194_5 ?_
    refine q_ild rfl rfl ?_
    refine q_ild rfl rfl ?_
    refine q_if (c := 0) rfl (by decide) (fun y2 => ?_) (fun y2 => ?_)
    · have y2 : (z).toInt = 0 := y2
      refine q_ald rfl rfl ?_
      refine q_getr rfl sk_194 sr_194_5 ?_
      refine q_ild rfl rfl ?_
      refine q_xald rfl (Or.inl rfl) sk_200 sn_200 (by omega) (by omega) ?_
      show dw_ok (pr_X10_seeWet K) 103 0 0 [some (.ref 194), some (.int c), some (.int t), some (.int z)] [.int ((dw_up (dw_up (dw_up (dw_up (dw_up I 195 k (I 195 k)) 196 k t) 197 k ((I 197 k) + (1 : Int32))) 198 k ((I 198 k) + (1 : Int32))) 199 k (fi_max (I 199 k) ((I 198 k) + (1 : Int32)))) 200 (c).toInt.toNat), .int c, .ref 200] (n, SH1, (dw_up (dw_up (dw_up (dw_up (dw_up I 195 k (I 195 k)) 196 k t) 197 k ((I 197 k) + (1 : Int32))) 198 k ((I 198 k) + (1 : Int32))) 199 k (fi_max (I 199 k) ((I 198 k) + (1 : Int32)))), J)
      rw [hcn]
      show dw_ok (pr_X10_seeWet K) 103 0 0 [some (.ref 194), some (.int c), some (.int t), some (.int z)] [.int ((dw_up (dw_up (dw_up (dw_up (dw_up I 195 k (I 195 k)) 196 k t) 197 k ((I 197 k) + (1 : Int32))) 198 k ((I 198 k) + (1 : Int32))) 199 k (fi_max (I 199 k) ((I 198 k) + (1 : Int32)))) 200 k), .int c, .ref 200] (n, SH1, (dw_up (dw_up (dw_up (dw_up (dw_up I 195 k (I 195 k)) 196 k t) 197 k ((I 197 k) + (1 : Int32))) 198 k ((I 198 k) + (1 : Int32))) 199 k (fi_max (I 199 k) ((I 198 k) + (1 : Int32)))), J)
      rw [show ((dw_up (dw_up (dw_up (dw_up (dw_up I 195 k (I 195 k)) 196 k t) 197 k ((I 197 k) + (1 : Int32))) 198 k ((I 198 k) + (1 : Int32))) 199 k (fi_max (I 199 k) ((I 198 k) + (1 : Int32)))) 200 k) = (I 200 k) from ((up_ne (Or.inl (by decide))).trans ((up_ne (Or.inl (by decide))).trans ((up_ne (Or.inl (by decide))).trans ((up_ne (Or.inl (by decide))).trans (up_ne (Or.inl (by decide)))))))]
      refine q_iast rfl sk_200 sn_200 (by omega) (by omega) ?_
      show dw_ok (pr_X10_seeWet K) 104 0 0 [some (.ref 194), some (.int c), some (.int t), some (.int z)] [] (n, SH1, (dw_up (dw_up (dw_up (dw_up (dw_up (dw_up I 195 k (I 195 k)) 196 k t) 197 k ((I 197 k) + (1 : Int32))) 198 k ((I 198 k) + (1 : Int32))) 199 k (fi_max (I 199 k) ((I 198 k) + (1 : Int32)))) 200 (c).toInt.toNat (I 200 k)), J)
      rw [hcn]
      obtain ⟨u1, u2, u3⟩ := up6 (I := I) (k := k) (x1 := (I 195 k)) (x2 := t) (x3 := ((I 197 k) + (1 : Int32))) (x4 := ((I 198 k) + (1 : Int32))) (x5 := (fi_max (I 199 k) ((I 198 k) + (1 : Int32)))) (x6 := (I 200 k))
      refine q_vret rfl (hk _ u1 u2 (u3.trans ?_))
      rw [wk1_y ha]
      show _ = (if (I 195 k).toInt = -1 then t else I 195 k, t, I 197 k + 1, I 198 k + 1, fi_max (I 199 k) (I 198 k + 1), if m.toInt < 0 ∧ (I 200 k).toInt = -1 then t else I 200 k)
      rw [if_neg y1, if_neg (fun q => by omega)]
    · have y2 : (z).toInt ≠ 0 := y2
      refine q_ald rfl rfl ?_
      refine q_getr rfl sk_194 sr_194_5 ?_
      refine q_ild rfl rfl ?_
      refine q_xald rfl (Or.inl rfl) sk_200 sn_200 (by omega) (by omega) ?_
      show dw_ok (pr_X10_seeWet K) 89 0 0 [some (.ref 194), some (.int c), some (.int t), some (.int z)] [.int ((dw_up (dw_up (dw_up (dw_up (dw_up I 195 k (I 195 k)) 196 k t) 197 k ((I 197 k) + (1 : Int32))) 198 k ((I 198 k) + (1 : Int32))) 199 k (fi_max (I 199 k) ((I 198 k) + (1 : Int32)))) 200 (c).toInt.toNat), .int c, .ref 200] (n, SH1, (dw_up (dw_up (dw_up (dw_up (dw_up I 195 k (I 195 k)) 196 k t) 197 k ((I 197 k) + (1 : Int32))) 198 k ((I 198 k) + (1 : Int32))) 199 k (fi_max (I 199 k) ((I 198 k) + (1 : Int32)))), J)
      rw [hcn]
      show dw_ok (pr_X10_seeWet K) 89 0 0 [some (.ref 194), some (.int c), some (.int t), some (.int z)] [.int ((dw_up (dw_up (dw_up (dw_up (dw_up I 195 k (I 195 k)) 196 k t) 197 k ((I 197 k) + (1 : Int32))) 198 k ((I 198 k) + (1 : Int32))) 199 k (fi_max (I 199 k) ((I 198 k) + (1 : Int32)))) 200 k), .int c, .ref 200] (n, SH1, (dw_up (dw_up (dw_up (dw_up (dw_up I 195 k (I 195 k)) 196 k t) 197 k ((I 197 k) + (1 : Int32))) 198 k ((I 198 k) + (1 : Int32))) 199 k (fi_max (I 199 k) ((I 198 k) + (1 : Int32)))), J)
      rw [show ((dw_up (dw_up (dw_up (dw_up (dw_up I 195 k (I 195 k)) 196 k t) 197 k ((I 197 k) + (1 : Int32))) 198 k ((I 198 k) + (1 : Int32))) 199 k (fi_max (I 199 k) ((I 198 k) + (1 : Int32)))) 200 k) = (I 200 k) from ((up_ne (Or.inl (by decide))).trans ((up_ne (Or.inl (by decide))).trans ((up_ne (Or.inl (by decide))).trans ((up_ne (Or.inl (by decide))).trans (up_ne (Or.inl (by decide)))))))]
      refine q_ic rfl ?_
      refine q_icmp (c := 1) rfl (by decide) (fun y3 => ?_) (fun y3 => ?_)
      · have y3 : ((I 200 k)).toInt ≠ (-1 : Int) := y3
        refine q_ald rfl rfl ?_
        refine q_getr rfl sk_194 sr_194_5 ?_
        refine q_ild rfl rfl ?_
        refine q_xald rfl (Or.inl rfl) sk_200 sn_200 (by omega) (by omega) ?_
        show dw_ok (pr_X10_seeWet K) 103 0 0 [some (.ref 194), some (.int c), some (.int t), some (.int z)] [.int ((dw_up (dw_up (dw_up (dw_up (dw_up I 195 k (I 195 k)) 196 k t) 197 k ((I 197 k) + (1 : Int32))) 198 k ((I 198 k) + (1 : Int32))) 199 k (fi_max (I 199 k) ((I 198 k) + (1 : Int32)))) 200 (c).toInt.toNat), .int c, .ref 200] (n, SH1, (dw_up (dw_up (dw_up (dw_up (dw_up I 195 k (I 195 k)) 196 k t) 197 k ((I 197 k) + (1 : Int32))) 198 k ((I 198 k) + (1 : Int32))) 199 k (fi_max (I 199 k) ((I 198 k) + (1 : Int32)))), J)
        rw [hcn]
        show dw_ok (pr_X10_seeWet K) 103 0 0 [some (.ref 194), some (.int c), some (.int t), some (.int z)] [.int ((dw_up (dw_up (dw_up (dw_up (dw_up I 195 k (I 195 k)) 196 k t) 197 k ((I 197 k) + (1 : Int32))) 198 k ((I 198 k) + (1 : Int32))) 199 k (fi_max (I 199 k) ((I 198 k) + (1 : Int32)))) 200 k), .int c, .ref 200] (n, SH1, (dw_up (dw_up (dw_up (dw_up (dw_up I 195 k (I 195 k)) 196 k t) 197 k ((I 197 k) + (1 : Int32))) 198 k ((I 198 k) + (1 : Int32))) 199 k (fi_max (I 199 k) ((I 198 k) + (1 : Int32)))), J)
        rw [show ((dw_up (dw_up (dw_up (dw_up (dw_up I 195 k (I 195 k)) 196 k t) 197 k ((I 197 k) + (1 : Int32))) 198 k ((I 198 k) + (1 : Int32))) 199 k (fi_max (I 199 k) ((I 198 k) + (1 : Int32)))) 200 k) = (I 200 k) from ((up_ne (Or.inl (by decide))).trans ((up_ne (Or.inl (by decide))).trans ((up_ne (Or.inl (by decide))).trans ((up_ne (Or.inl (by decide))).trans (up_ne (Or.inl (by decide)))))))]
        refine q_iast rfl sk_200 sn_200 (by omega) (by omega) ?_
        show dw_ok (pr_X10_seeWet K) 104 0 0 [some (.ref 194), some (.int c), some (.int t), some (.int z)] [] (n, SH1, (dw_up (dw_up (dw_up (dw_up (dw_up (dw_up I 195 k (I 195 k)) 196 k t) 197 k ((I 197 k) + (1 : Int32))) 198 k ((I 198 k) + (1 : Int32))) 199 k (fi_max (I 199 k) ((I 198 k) + (1 : Int32)))) 200 (c).toInt.toNat (I 200 k)), J)
        rw [hcn]
        obtain ⟨u1, u2, u3⟩ := up6 (I := I) (k := k) (x1 := (I 195 k)) (x2 := t) (x3 := ((I 197 k) + (1 : Int32))) (x4 := ((I 198 k) + (1 : Int32))) (x5 := (fi_max (I 199 k) ((I 198 k) + (1 : Int32)))) (x6 := (I 200 k))
        refine q_vret rfl (hk _ u1 u2 (u3.trans ?_))
        rw [wk1_y ha]
        show _ = (if (I 195 k).toInt = -1 then t else I 195 k, t, I 197 k + 1, I 198 k + 1, fi_max (I 199 k) (I 198 k + 1), if m.toInt < 0 ∧ (I 200 k).toInt = -1 then t else I 200 k)
        rw [if_neg y1, if_neg (fun q => y3 q.2)]
      · have y3 : ((I 200 k)).toInt = (-1 : Int) := y3
        refine q_ild rfl rfl ?_
        refine q_goto rfl ?_
        refine q_iast rfl sk_200 sn_200 (by omega) (by omega) ?_
        show dw_ok (pr_X10_seeWet K) 104 0 0 [some (.ref 194), some (.int c), some (.int t), some (.int z)] [] (n, SH1, (dw_up (dw_up (dw_up (dw_up (dw_up (dw_up I 195 k (I 195 k)) 196 k t) 197 k ((I 197 k) + (1 : Int32))) 198 k ((I 198 k) + (1 : Int32))) 199 k (fi_max (I 199 k) ((I 198 k) + (1 : Int32)))) 200 (c).toInt.toNat t), J)
        rw [hcn]
        obtain ⟨u1, u2, u3⟩ := up6 (I := I) (k := k) (x1 := (I 195 k)) (x2 := t) (x3 := ((I 197 k) + (1 : Int32))) (x4 := ((I 198 k) + (1 : Int32))) (x5 := (fi_max (I 199 k) ((I 198 k) + (1 : Int32)))) (x6 := t)
        refine q_vret rfl (hk _ u1 u2 (u3.trans ?_))
        rw [wk1_y ha]
        show _ = (if (I 195 k).toInt = -1 then t else I 195 k, t, I 197 k + 1, I 198 k + 1, fi_max (I 199 k) (I 198 k + 1), if m.toInt < 0 ∧ (I 200 k).toInt = -1 then t else I 200 k)
        rw [if_neg y1, if_pos ⟨by omega, y3⟩]
  · have y1 : ((I 195 k)).toInt = (-1 : Int) := y1
    refine q_ild rfl rfl ?_
    refine q_goto rfl ?_
    refine q_iast rfl sk_195 sn_195 (by omega) (by omega) ?_
    show dw_ok (pr_X10_seeWet K) 26 0 0 [some (.ref 194), some (.int c), some (.int t), some (.int z)] [] (n, SH1, (dw_up I 195 (c).toInt.toNat t), J)
    rw [hcn]
    refine q_ald rfl rfl ?_
    refine q_getr rfl sk_194 sr_194_1 ?_
    refine q_ild rfl rfl ?_
    refine q_ild rfl rfl ?_
    refine q_iast rfl sk_196 sn_196 (by omega) (by omega) ?_
    show dw_ok (pr_X10_seeWet K) 33 0 0 [some (.ref 194), some (.int c), some (.int t), some (.int z)] [] (n, SH1, (dw_up (dw_up I 195 k t) 196 (c).toInt.toNat t), J)
    rw [hcn]
    refine q_ald rfl rfl ?_
    refine q_getr rfl sk_194 sr_194_2 ?_
    refine q_ild rfl rfl ?_
    refine q_dup2 rfl ?_
    refine q_xald rfl (Or.inl rfl) sk_197 sn_197 (by omega) (by omega) ?_
    show dw_ok (pr_X10_seeWet K) 40 0 0 [some (.ref 194), some (.int c), some (.int t), some (.int z)] [.int ((dw_up (dw_up I 195 k t) 196 k t) 197 (c).toInt.toNat), .int c, .ref 197] (n, SH1, (dw_up (dw_up I 195 k t) 196 k t), J)
    rw [hcn]
    show dw_ok (pr_X10_seeWet K) 40 0 0 [some (.ref 194), some (.int c), some (.int t), some (.int z)] [.int ((dw_up (dw_up I 195 k t) 196 k t) 197 k), .int c, .ref 197] (n, SH1, (dw_up (dw_up I 195 k t) 196 k t), J)
    rw [show ((dw_up (dw_up I 195 k t) 196 k t) 197 k) = (I 197 k) from ((up_ne (Or.inl (by decide))).trans (up_ne (Or.inl (by decide))))]
    refine q_ic rfl ?_
    refine q_add rfl ?_
    refine q_iast rfl sk_197 sn_197 (by omega) (by omega) ?_
    show dw_ok (pr_X10_seeWet K) 43 0 0 [some (.ref 194), some (.int c), some (.int t), some (.int z)] [] (n, SH1, (dw_up (dw_up (dw_up I 195 k t) 196 k t) 197 (c).toInt.toNat ((I 197 k) + (1 : Int32))), J)
    rw [hcn]
    refine q_ald rfl rfl ?_
    refine q_getr rfl sk_194 sr_194_3 ?_
    refine q_ild rfl rfl ?_
    refine q_dup2 rfl ?_
    refine q_xald rfl (Or.inl rfl) sk_198 sn_198 (by omega) (by omega) ?_
    show dw_ok (pr_X10_seeWet K) 50 0 0 [some (.ref 194), some (.int c), some (.int t), some (.int z)] [.int ((dw_up (dw_up (dw_up I 195 k t) 196 k t) 197 k ((I 197 k) + (1 : Int32))) 198 (c).toInt.toNat), .int c, .ref 198] (n, SH1, (dw_up (dw_up (dw_up I 195 k t) 196 k t) 197 k ((I 197 k) + (1 : Int32))), J)
    rw [hcn]
    show dw_ok (pr_X10_seeWet K) 50 0 0 [some (.ref 194), some (.int c), some (.int t), some (.int z)] [.int ((dw_up (dw_up (dw_up I 195 k t) 196 k t) 197 k ((I 197 k) + (1 : Int32))) 198 k), .int c, .ref 198] (n, SH1, (dw_up (dw_up (dw_up I 195 k t) 196 k t) 197 k ((I 197 k) + (1 : Int32))), J)
    rw [show ((dw_up (dw_up (dw_up I 195 k t) 196 k t) 197 k ((I 197 k) + (1 : Int32))) 198 k) = (I 198 k) from ((up_ne (Or.inl (by decide))).trans ((up_ne (Or.inl (by decide))).trans (up_ne (Or.inl (by decide)))))]
    refine q_ic rfl ?_
    refine q_add rfl ?_
    refine q_iast rfl sk_198 sn_198 (by omega) (by omega) ?_
    show dw_ok (pr_X10_seeWet K) 53 0 0 [some (.ref 194), some (.int c), some (.int t), some (.int z)] [] (n, SH1, (dw_up (dw_up (dw_up (dw_up I 195 k t) 196 k t) 197 k ((I 197 k) + (1 : Int32))) 198 (c).toInt.toNat ((I 198 k) + (1 : Int32))), J)
    rw [hcn]
    refine q_ald rfl rfl ?_
    refine q_getr rfl sk_194 sr_194_4 ?_
    refine q_ild rfl rfl ?_
    refine q_ald rfl rfl ?_
    refine q_getr rfl sk_194 sr_194_4 ?_
    refine q_ild rfl rfl ?_
    refine q_xald rfl (Or.inl rfl) sk_199 sn_199 (by omega) (by omega) ?_
    show dw_ok (pr_X10_seeWet K) 64 0 0 [some (.ref 194), some (.int c), some (.int t), some (.int z)] [.int ((dw_up (dw_up (dw_up (dw_up I 195 k t) 196 k t) 197 k ((I 197 k) + (1 : Int32))) 198 k ((I 198 k) + (1 : Int32))) 199 (c).toInt.toNat), .int c, .ref 199] (n, SH1, (dw_up (dw_up (dw_up (dw_up I 195 k t) 196 k t) 197 k ((I 197 k) + (1 : Int32))) 198 k ((I 198 k) + (1 : Int32))), J)
    rw [hcn]
    show dw_ok (pr_X10_seeWet K) 64 0 0 [some (.ref 194), some (.int c), some (.int t), some (.int z)] [.int ((dw_up (dw_up (dw_up (dw_up I 195 k t) 196 k t) 197 k ((I 197 k) + (1 : Int32))) 198 k ((I 198 k) + (1 : Int32))) 199 k), .int c, .ref 199] (n, SH1, (dw_up (dw_up (dw_up (dw_up I 195 k t) 196 k t) 197 k ((I 197 k) + (1 : Int32))) 198 k ((I 198 k) + (1 : Int32))), J)
    rw [show ((dw_up (dw_up (dw_up (dw_up I 195 k t) 196 k t) 197 k ((I 197 k) + (1 : Int32))) 198 k ((I 198 k) + (1 : Int32))) 199 k) = (I 199 k) from ((up_ne (Or.inl (by decide))).trans ((up_ne (Or.inl (by decide))).trans ((up_ne (Or.inl (by decide))).trans (up_ne (Or.inl (by decide))))))]
    refine q_ald rfl rfl ?_
    refine q_getr rfl sk_194 sr_194_3 ?_
    refine q_ild rfl rfl ?_
    refine q_xald rfl (Or.inl rfl) sk_198 sn_198 (by omega) (by omega) ?_
    show dw_ok (pr_X10_seeWet K) 70 0 0 [some (.ref 194), some (.int c), some (.int t), some (.int z)] [.int ((dw_up (dw_up (dw_up (dw_up I 195 k t) 196 k t) 197 k ((I 197 k) + (1 : Int32))) 198 k ((I 198 k) + (1 : Int32))) 198 (c).toInt.toNat), .int (I 199 k), .int c, .ref 199] (n, SH1, (dw_up (dw_up (dw_up (dw_up I 195 k t) 196 k t) 197 k ((I 197 k) + (1 : Int32))) 198 k ((I 198 k) + (1 : Int32))), J)
    rw [hcn]
    show dw_ok (pr_X10_seeWet K) 70 0 0 [some (.ref 194), some (.int c), some (.int t), some (.int z)] [.int ((dw_up (dw_up (dw_up (dw_up I 195 k t) 196 k t) 197 k ((I 197 k) + (1 : Int32))) 198 k ((I 198 k) + (1 : Int32))) 198 k), .int (I 199 k), .int c, .ref 199] (n, SH1, (dw_up (dw_up (dw_up (dw_up I 195 k t) 196 k t) 197 k ((I 197 k) + (1 : Int32))) 198 k ((I 198 k) + (1 : Int32))), J)
    rw [show ((dw_up (dw_up (dw_up (dw_up I 195 k t) 196 k t) 197 k ((I 197 k) + (1 : Int32))) 198 k ((I 198 k) + (1 : Int32))) 198 k) = ((I 198 k) + (1 : Int32)) from up_same]
    refine q_max rfl rfl ?_
    refine q_iast rfl sk_199 sn_199 (by omega) (by omega) ?_
    show dw_ok (pr_X10_seeWet K) 74 0 0 [some (.ref 194), some (.int c), some (.int t), some (.int z)] [] (n, SH1, (dw_up (dw_up (dw_up (dw_up (dw_up I 195 k t) 196 k t) 197 k ((I 197 k) + (1 : Int32))) 198 k ((I 198 k) + (1 : Int32))) 199 (c).toInt.toNat (fi_max (I 199 k) ((I 198 k) + (1 : Int32)))), J)
    rw [hcn]
    refine q_ald rfl rfl ?_
    refine q_getr rfl sk_194 sr_194_5 ?_
    refine q_ild rfl rfl ?_
    refine q_ild rfl rfl ?_
    refine q_if (c := 0) rfl (by decide) (fun y4 => ?_) (fun y4 => ?_)
    · have y4 : (z).toInt = 0 := y4
      refine q_ald rfl rfl ?_
      refine q_getr rfl sk_194 sr_194_5 ?_
      refine q_ild rfl rfl ?_
      refine q_xald rfl (Or.inl rfl) sk_200 sn_200 (by omega) (by omega) ?_
      show dw_ok (pr_X10_seeWet K) 103 0 0 [some (.ref 194), some (.int c), some (.int t), some (.int z)] [.int ((dw_up (dw_up (dw_up (dw_up (dw_up I 195 k t) 196 k t) 197 k ((I 197 k) + (1 : Int32))) 198 k ((I 198 k) + (1 : Int32))) 199 k (fi_max (I 199 k) ((I 198 k) + (1 : Int32)))) 200 (c).toInt.toNat), .int c, .ref 200] (n, SH1, (dw_up (dw_up (dw_up (dw_up (dw_up I 195 k t) 196 k t) 197 k ((I 197 k) + (1 : Int32))) 198 k ((I 198 k) + (1 : Int32))) 199 k (fi_max (I 199 k) ((I 198 k) + (1 : Int32)))), J)
      rw [hcn]
      show dw_ok (pr_X10_seeWet K) 103 0 0 [some (.ref 194), some (.int c), some (.int t), some (.int z)] [.int ((dw_up (dw_up (dw_up (dw_up (dw_up I 195 k t) 196 k t) 197 k ((I 197 k) + (1 : Int32))) 198 k ((I 198 k) + (1 : Int32))) 199 k (fi_max (I 199 k) ((I 198 k) + (1 : Int32)))) 200 k), .int c, .ref 200] (n, SH1, (dw_up (dw_up (dw_up (dw_up (dw_up I 195 k t) 196 k t) 197 k ((I 197 k) + (1 : Int32))) 198 k ((I 198 k) + (1 : Int32))) 199 k (fi_max (I 199 k) ((I 198 k) + (1 : Int32)))), J)
      rw [show ((dw_up (dw_up (dw_up (dw_up (dw_up I 195 k t) 196 k t) 197 k ((I 197 k) + (1 : Int32))) 198 k ((I 198 k) + (1 : Int32))) 199 k (fi_max (I 199 k) ((I 198 k) + (1 : Int32)))) 200 k) = (I 200 k) from ((up_ne (Or.inl (by decide))).trans ((up_ne (Or.inl (by decide))).trans ((up_ne (Or.inl (by decide))).trans ((up_ne (Or.inl (by decide))).trans (up_ne (Or.inl (by decide)))))))]
      refine q_iast rfl sk_200 sn_200 (by omega) (by omega) ?_
      show dw_ok (pr_X10_seeWet K) 104 0 0 [some (.ref 194), some (.int c), some (.int t), some (.int z)] [] (n, SH1, (dw_up (dw_up (dw_up (dw_up (dw_up (dw_up I 195 k t) 196 k t) 197 k ((I 197 k) + (1 : Int32))) 198 k ((I 198 k) + (1 : Int32))) 199 k (fi_max (I 199 k) ((I 198 k) + (1 : Int32)))) 200 (c).toInt.toNat (I 200 k)), J)
      rw [hcn]
      obtain ⟨u1, u2, u3⟩ := up6 (I := I) (k := k) (x1 := t) (x2 := t) (x3 := ((I 197 k) + (1 : Int32))) (x4 := ((I 198 k) + (1 : Int32))) (x5 := (fi_max (I 199 k) ((I 198 k) + (1 : Int32)))) (x6 := (I 200 k))
      refine q_vret rfl (hk _ u1 u2 (u3.trans ?_))
      rw [wk1_y ha]
      show _ = (if (I 195 k).toInt = -1 then t else I 195 k, t, I 197 k + 1, I 198 k + 1, fi_max (I 199 k) (I 198 k + 1), if m.toInt < 0 ∧ (I 200 k).toInt = -1 then t else I 200 k)
      rw [if_pos y1, if_neg (fun q => by omega)]
    · have y4 : (z).toInt ≠ 0 := y4
      refine q_ald rfl rfl ?_
      refine q_getr rfl sk_194 sr_194_5 ?_
      refine q_ild rfl rfl ?_
      refine q_xald rfl (Or.inl rfl) sk_200 sn_200 (by omega) (by omega) ?_
      show dw_ok (pr_X10_seeWet K) 89 0 0 [some (.ref 194), some (.int c), some (.int t), some (.int z)] [.int ((dw_up (dw_up (dw_up (dw_up (dw_up I 195 k t) 196 k t) 197 k ((I 197 k) + (1 : Int32))) 198 k ((I 198 k) + (1 : Int32))) 199 k (fi_max (I 199 k) ((I 198 k) + (1 : Int32)))) 200 (c).toInt.toNat), .int c, .ref 200] (n, SH1, (dw_up (dw_up (dw_up (dw_up (dw_up I 195 k t) 196 k t) 197 k ((I 197 k) + (1 : Int32))) 198 k ((I 198 k) + (1 : Int32))) 199 k (fi_max (I 199 k) ((I 198 k) + (1 : Int32)))), J)
      rw [hcn]
      show dw_ok (pr_X10_seeWet K) 89 0 0 [some (.ref 194), some (.int c), some (.int t), some (.int z)] [.int ((dw_up (dw_up (dw_up (dw_up (dw_up I 195 k t) 196 k t) 197 k ((I 197 k) + (1 : Int32))) 198 k ((I 198 k) + (1 : Int32))) 199 k (fi_max (I 199 k) ((I 198 k) + (1 : Int32)))) 200 k), .int c, .ref 200] (n, SH1, (dw_up (dw_up (dw_up (dw_up (dw_up I 195 k t) 196 k t) 197 k ((I 197 k) + (1 : Int32))) 198 k ((I 198 k) + (1 : Int32))) 199 k (fi_max (I 199 k) ((I 198 k) + (1 : Int32)))), J)
      rw [show ((dw_up (dw_up (dw_up (dw_up (dw_up I 195 k t) 196 k t) 197 k ((I 197 k) + (1 : Int32))) 198 k ((I 198 k) + (1 : Int32))) 199 k (fi_max (I 199 k) ((I 198 k) + (1 : Int32)))) 200 k) = (I 200 k) from ((up_ne (Or.inl (by decide))).trans ((up_ne (Or.inl (by decide))).trans ((up_ne (Or.inl (by decide))).trans ((up_ne (Or.inl (by decide))).trans (up_ne (Or.inl (by decide)))))))]
      refine q_ic rfl ?_
      refine q_icmp (c := 1) rfl (by decide) (fun y5 => ?_) (fun y5 => ?_)
      · have y5 : ((I 200 k)).toInt ≠ (-1 : Int) := y5
        refine q_ald rfl rfl ?_
        refine q_getr rfl sk_194 sr_194_5 ?_
        refine q_ild rfl rfl ?_
        refine q_xald rfl (Or.inl rfl) sk_200 sn_200 (by omega) (by omega) ?_
        show dw_ok (pr_X10_seeWet K) 103 0 0 [some (.ref 194), some (.int c), some (.int t), some (.int z)] [.int ((dw_up (dw_up (dw_up (dw_up (dw_up I 195 k t) 196 k t) 197 k ((I 197 k) + (1 : Int32))) 198 k ((I 198 k) + (1 : Int32))) 199 k (fi_max (I 199 k) ((I 198 k) + (1 : Int32)))) 200 (c).toInt.toNat), .int c, .ref 200] (n, SH1, (dw_up (dw_up (dw_up (dw_up (dw_up I 195 k t) 196 k t) 197 k ((I 197 k) + (1 : Int32))) 198 k ((I 198 k) + (1 : Int32))) 199 k (fi_max (I 199 k) ((I 198 k) + (1 : Int32)))), J)
        rw [hcn]
        show dw_ok (pr_X10_seeWet K) 103 0 0 [some (.ref 194), some (.int c), some (.int t), some (.int z)] [.int ((dw_up (dw_up (dw_up (dw_up (dw_up I 195 k t) 196 k t) 197 k ((I 197 k) + (1 : Int32))) 198 k ((I 198 k) + (1 : Int32))) 199 k (fi_max (I 199 k) ((I 198 k) + (1 : Int32)))) 200 k), .int c, .ref 200] (n, SH1, (dw_up (dw_up (dw_up (dw_up (dw_up I 195 k t) 196 k t) 197 k ((I 197 k) + (1 : Int32))) 198 k ((I 198 k) + (1 : Int32))) 199 k (fi_max (I 199 k) ((I 198 k) + (1 : Int32)))), J)
        rw [show ((dw_up (dw_up (dw_up (dw_up (dw_up I 195 k t) 196 k t) 197 k ((I 197 k) + (1 : Int32))) 198 k ((I 198 k) + (1 : Int32))) 199 k (fi_max (I 199 k) ((I 198 k) + (1 : Int32)))) 200 k) = (I 200 k) from ((up_ne (Or.inl (by decide))).trans ((up_ne (Or.inl (by decide))).trans ((up_ne (Or.inl (by decide))).trans ((up_ne (Or.inl (by decide))).trans (up_ne (Or.inl (by decide)))))))]
        refine q_iast rfl sk_200 sn_200 (by omega) (by omega) ?_
        show dw_ok (pr_X10_seeWet K) 104 0 0 [some (.ref 194), some (.int c), some (.int t), some (.int z)] [] (n, SH1, (dw_up (dw_up (dw_up (dw_up (dw_up (dw_up I 195 k t) 196 k t) 197 k ((I 197 k) + (1 : Int32))) 198 k ((I 198 k) + (1 : Int32))) 199 k (fi_max (I 199 k) ((I 198 k) + (1 : Int32)))) 200 (c).toInt.toNat (I 200 k)), J)
        rw [hcn]
        obtain ⟨u1, u2, u3⟩ := up6 (I := I) (k := k) (x1 := t) (x2 := t) (x3 := ((I 197 k) + (1 : Int32))) (x4 := ((I 198 k) + (1 : Int32))) (x5 := (fi_max (I 199 k) ((I 198 k) + (1 : Int32)))) (x6 := (I 200 k))
        refine q_vret rfl (hk _ u1 u2 (u3.trans ?_))
        rw [wk1_y ha]
        show _ = (if (I 195 k).toInt = -1 then t else I 195 k, t, I 197 k + 1, I 198 k + 1, fi_max (I 199 k) (I 198 k + 1), if m.toInt < 0 ∧ (I 200 k).toInt = -1 then t else I 200 k)
        rw [if_pos y1, if_neg (fun q => y5 q.2)]
      · have y5 : ((I 200 k)).toInt = (-1 : Int) := y5
        refine q_ild rfl rfl ?_
        refine q_goto rfl ?_
        refine q_iast rfl sk_200 sn_200 (by omega) (by omega) ?_
        show dw_ok (pr_X10_seeWet K) 104 0 0 [some (.ref 194), some (.int c), some (.int t), some (.int z)] [] (n, SH1, (dw_up (dw_up (dw_up (dw_up (dw_up (dw_up I 195 k t) 196 k t) 197 k ((I 197 k) + (1 : Int32))) 198 k ((I 198 k) + (1 : Int32))) 199 k (fi_max (I 199 k) ((I 198 k) + (1 : Int32)))) 200 (c).toInt.toNat t), J)
        rw [hcn]
        obtain ⟨u1, u2, u3⟩ := up6 (I := I) (k := k) (x1 := t) (x2 := t) (x3 := ((I 197 k) + (1 : Int32))) (x4 := ((I 198 k) + (1 : Int32))) (x5 := (fi_max (I 199 k) ((I 198 k) + (1 : Int32)))) (x6 := t)
        refine q_vret rfl (hk _ u1 u2 (u3.trans ?_))
        rw [wk1_y ha]
        show _ = (if (I 195 k).toInt = -1 then t else I 195 k, t, I 197 k + 1, I 198 k + 1, fi_max (I 199 k) (I 198 k + 1), if m.toInt < 0 ∧ (I 200 k).toInt = -1 then t else I 200 k)
        rw [if_pos y1, if_pos ⟨by omega, y5⟩]
set_option maxRecDepth 8000 in
theorem look_loop {n : Nat} {J : Nat → Nat → Int64} {K : dw_K} {t : Int32} {N : Nat} {I0 : Nat → Nat → Int32} (hN : (I0 164 1).toInt = N) (hN9 : N ≤ 144)
    (hk : ∀ I' : Nat → Nat → Int32, (∀ a, (a < 195 ∨ 200 < a) → I' a = I0 a) → (∀ j, j < N → wT I' j = wk1 (I0 (164 + 14) j) (I0 (164 + 13) j) t (wT I0 j)) → K none (n, SH1, I', J)) :
    ∀ (f k : Nat) (c : Int32) (I : Nat → Nat → Int32), k + f = N → c.toInt = k → (∀ a, (a < 195 ∨ 200 < a) → I a = I0 a) → (∀ j, j < k → wT I j = wk1 (I0 (164 + 14) j) (I0 (164 + 13) j) t (wT I0 j)) → (∀ j, k ≤ j → wT I j = wT I0 j) → dw_ok (pr_X10_look K) 2 0 0 [some (.ref 194), some (.ref 164), some (.int t), some (.int c)] [] (n, SH1, I, J) := by
  have cm1 : (-1 : Int32).toInt = -1 := rfl
  have k0 : (0 : Int32).toInt = 0 := rfl
  have k1 : (1 : Int32).toInt = 1 := rfl
  intro f
  induction f with
  | zero =>
    intro k c I hf hc hfr h1 h2
    have kN : k = N := by omega
    rw [kN] at h1
    have e164 := hfr 164 (by decide)
    have hn : (I 164 1).toInt = N := by rw [e164]; exact hN
    refine q_ild rfl rfl ?_
    refine q_ald rfl rfl ?_
    refine q_geti rfl sk_164 ?_
    refine q_icmp (c := 3) rfl (by decide) (fun y1 => ?_) (fun h => absurd (show (c).toInt < ((I 164 1)).toInt from h) (by omega))
    have y1 : ((I 164 1)).toInt ≤ (c).toInt := y1
    exact q_vret rfl (hk I hfr h1)
  | succ f ih =>
    intro k c I hf hc hfr h1 h2
    have e164 := hfr 164 (by decide)
    have e177 : I (164 + 13) = I0 (164 + 13) := hfr _ (by decide)
    have e178 : I (164 + 14) = I0 (164 + 14) := hfr _ (by decide)
    have hn : (I 164 1).toInt = N := by rw [e164]; exact hN
    have hcn : c.toInt.toNat = k := by omega
    refine q_ild rfl rfl ?_
    refine q_ald rfl rfl ?_
    refine q_geti rfl sk_164 ?_
    refine q_icmp (c := 3) rfl (by decide) (fun h => absurd (show ((I 164 1)).toInt ≤ (c).toInt from h) (by omega)) (fun y2 => ?_)
    have y2 : (c).toInt < ((I 164 1)).toInt := y2
    refine q_ild rfl rfl ?_
    refine q_ic rfl ?_
    refine q_icmp (c := 3) rfl (by decide) (fun h => absurd (show (144 : Int) ≤ (c).toInt from h) (by omega)) (fun y3 => ?_)
    have y3 : (c).toInt < (144 : Int) := y3
    refine q_ald rfl rfl ?_
    refine q_ild rfl rfl ?_
    refine q_callV (as := [.int c]) (rest := []) rfl rfl sk_164 rfl (Nat.le_of_ble_eq_true rfl) ?_
    refine v_waterOf (A := 164) (N := N) (k := k) (rt_ok (by decide)) hc hn hN9 (by omega) ?_
    show dw_ok (pr_X10_look K) 22 0 0 [some (.ref 194), some (.ref 164), some (.int t), some (.int c)] [.int (I (164 + 14) k)] (n, SH1, I, J)
    obtain ⟨va, hva⟩ : ∃ z, z = I (164 + 14) k := ⟨_, rfl⟩
    rw [← hva]
    show dw_ok (pr_X10_look K) 22 0 0 [some (.ref 194), some (.ref 164), some (.int t), some (.int c)] [.int va] (n, SH1, I, J)
    refine q_if (c := 5) rfl (by decide) (fun y4 => ?_) (fun y4 => ?_)
    · have y4 : (va).toInt ≤ 0 := y4
      refine q_ald rfl rfl ?_
      refine q_getr rfl sk_194 sr_194_3 ?_
      refine q_ild rfl rfl ?_
      refine q_ic rfl ?_
      refine q_iast rfl sk_198 sn_198 (by omega) (by omega) ?_
      show dw_ok (pr_X10_look K) 54 0 0 [some (.ref 194), some (.ref 164), some (.int t), some (.int c)] [] (n, SH1, (dw_up I 198 (c).toInt.toNat (0 : Int32)), J)
      rw [hcn]
      refine q_inc rfl rfl rfl ?_
      show dw_ok (pr_X10_look K) 57 0 0 [some (.ref 194), some (.ref 164), some (.int t), some (.int (c + 1))] [] (n, SH1, (dw_up I 198 k (0 : Int32)), J)
      show dw_ok (pr_X10_look K) 57 0 0 [some (.ref 194), some (.ref 164), some (.int t), some (.int (c + 1))] [] (n, SH1, (dw_up I 198 k (0 : Int32)), J)
      obtain ⟨cx, hcx⟩ : ∃ z, z = (c + 1) := ⟨_, rfl⟩
      rw [← hcx]
      have ecx : cx.toInt = ((k + 1 : Nat) : Int) := by rw [hcx]; exact ix_1 hc (by omega)
      refine q_goto rfl ?_
      obtain ⟨I1, hI1⟩ : ∃ X, X = (dw_up I 198 k (0 : Int32)) := ⟨_, rfl⟩
      rw [← hI1]
      have w1 : ∀ a, (a < 195 ∨ 200 < a) → I1 a = I a := fun a ha => by rw [hI1]; exact up_row (by omega)
      have w2 : ∀ j, j ≠ k → wT I1 j = wT I j := fun j hj => by
        rw [hI1]
        exact wT_eq (congrFun (up_row (by decide)) _) (congrFun (up_row (by decide)) _) (congrFun (up_row (by decide)) _) (up_fld hj) (congrFun (up_row (by decide)) _) (congrFun (up_row (by decide)) _)
      have w3 : wT I1 k = wk1 va (I (164 + 13) k) t (wT I k) := by
        rw [hI1, wk1_n (by omega)]
        unfold wT
        rw [up_same, congrFun (up_row (show (195 : Nat) ≠ 198 by decide)) k, congrFun (up_row (show (196 : Nat) ≠ 198 by decide)) k, congrFun (up_row (show (197 : Nat) ≠ 198 by decide)) k, congrFun (up_row (show (199 : Nat) ≠ 198 by decide)) k, congrFun (up_row (show (200 : Nat) ≠ 198 by decide)) k]
      rw [hva, e178, e177] at w3
      refine ih (k + 1) cx I1 (by omega) ecx (fun a ha => (w1 a ha).trans (hfr a ha)) (fun j hj => ?_) (fun j hj => (w2 j (by omega)).trans (h2 j (by omega)))
      by_cases e : j = k
      · rw [e, w3, h2 k (Nat.le_refl k)]
      · rw [w2 j e]; exact h1 j (by omega)
    · have y4 : 0 < (va).toInt := y4
      refine q_ald rfl rfl ?_
      refine q_ild rfl rfl ?_
      refine q_ild rfl rfl ?_
      refine q_ald rfl rfl ?_
      refine q_ild rfl rfl ?_
      refine q_callV (as := [.int c]) (rest := [.int t, .int c, .ref 194]) rfl rfl sk_164 rfl (Nat.le_of_ble_eq_true rfl) ?_
      refine v_warmthOf (A := 164) (N := N) (k := k) (rt_ok (by decide)) hc hn hN9 (by omega) ?_
      show dw_ok (pr_X10_look K) 33 0 0 [some (.ref 194), some (.ref 164), some (.int t), some (.int c)] [.int (I (164 + 13) k), .int t, .int c, .ref 194] (n, SH1, I, J)
      obtain ⟨vm, hvm⟩ : ∃ z, z = I (164 + 13) k := ⟨_, rfl⟩
      rw [← hvm]
      show dw_ok (pr_X10_look K) 33 0 0 [some (.ref 194), some (.ref 164), some (.int t), some (.int c)] [.int vm, .int t, .int c, .ref 194] (n, SH1, I, J)
      refine q_if (c := 3) rfl (by decide) (fun y5 => ?_) (fun y5 => ?_)
      · have y5 : 0 ≤ (vm).toInt := y5
        refine q_ic rfl ?_
        refine q_callV (as := [.int c, .int t, .int (0 : Int32)]) (rest := []) rfl rfl sk_194 rfl (Nat.le_of_ble_eq_true rfl) ?_
        refine v_seeWet (a := va) (m := vm) hc (by omega) (by omega) (Or.inr ⟨by omega, rfl⟩) (fun I1 w1 w2 w3 => ?_)
        show dw_ok (pr_X10_look K) 44 0 0 [some (.ref 194), some (.ref 164), some (.int t), some (.int c)] [] (n, SH1, I1, J)
        refine q_goto rfl ?_
        refine q_inc rfl rfl rfl ?_
        show dw_ok (pr_X10_look K) 57 0 0 [some (.ref 194), some (.ref 164), some (.int t), some (.int (c + 1))] [] (n, SH1, I1, J)
        show dw_ok (pr_X10_look K) 57 0 0 [some (.ref 194), some (.ref 164), some (.int t), some (.int (c + 1))] [] (n, SH1, I1, J)
        obtain ⟨cx, hcx⟩ : ∃ z, z = (c + 1) := ⟨_, rfl⟩
        rw [← hcx]
        have ecx : cx.toInt = ((k + 1 : Nat) : Int) := by rw [hcx]; exact ix_1 hc (by omega)
        refine q_goto rfl ?_
        rw [hva, hvm, e178, e177] at w3
        refine ih (k + 1) cx I1 (by omega) ecx (fun a ha => (w1 a ha).trans (hfr a ha)) (fun j hj => ?_) (fun j hj => (w2 j (by omega)).trans (h2 j (by omega)))
        by_cases e : j = k
        · rw [e, w3, h2 k (Nat.le_refl k)]
        · rw [w2 j e]; exact h1 j (by omega)
      · have y5 : (vm).toInt < 0 := y5
        refine q_ic rfl ?_
        refine q_goto rfl ?_
        refine q_callV (as := [.int c, .int t, .int (1 : Int32)]) (rest := []) rfl rfl sk_194 rfl (Nat.le_of_ble_eq_true rfl) ?_
        refine v_seeWet (a := va) (m := vm) hc (by omega) (by omega) (Or.inl ⟨by omega, rfl⟩) (fun I1 w1 w2 w3 => ?_)
        show dw_ok (pr_X10_look K) 44 0 0 [some (.ref 194), some (.ref 164), some (.int t), some (.int c)] [] (n, SH1, I1, J)
        refine q_goto rfl ?_
        refine q_inc rfl rfl rfl ?_
        show dw_ok (pr_X10_look K) 57 0 0 [some (.ref 194), some (.ref 164), some (.int t), some (.int (c + 1))] [] (n, SH1, I1, J)
        show dw_ok (pr_X10_look K) 57 0 0 [some (.ref 194), some (.ref 164), some (.int t), some (.int (c + 1))] [] (n, SH1, I1, J)
        obtain ⟨cx, hcx⟩ : ∃ z, z = (c + 1) := ⟨_, rfl⟩
        rw [← hcx]
        have ecx : cx.toInt = ((k + 1 : Nat) : Int) := by rw [hcx]; exact ix_1 hc (by omega)
        refine q_goto rfl ?_
        rw [hva, hvm, e178, e177] at w3
        refine ih (k + 1) cx I1 (by omega) ecx (fun a ha => (w1 a ha).trans (hfr a ha)) (fun j hj => ?_) (fun j hj => (w2 j (by omega)).trans (h2 j (by omega)))
        by_cases e : j = k
        · rw [e, w3, h2 k (Nat.le_refl k)]
        · rw [w2 j e]; exact h1 j (by omega)
set_option maxRecDepth 8000 in
theorem v_look {n : Nat} {I : Nat → Nat → Int32} {J : Nat → Nat → Int64} {K : dw_K} {t : Int32} {N : Nat} (hN : (I 164 1).toInt = N) (hN9 : N ≤ 144)
    (hk : ∀ I' : Nat → Nat → Int32, (∀ a, (a < 195 ∨ 200 < a) → I' a = I a) → (∀ j, j < N → wT I' j = wk1 (I (164 + 14) j) (I (164 + 13) j) t (wT I j)) → K none (n, SH1, I', J)) : t_X10_look [.ref 194, .ref 164, .int t] (n, SH1, I, J) K := by
  refine q_body (Nat.le_of_ble_eq_true rfl) ?_
  refine q_ic rfl ?_
  refine q_ist rfl rfl ?_
  exact look_loop (I0 := I) hN hN9 hk N 0 0 I (by omega) rfl (fun _ _ => rfl) (fun j hj => absurd hj (Nat.not_lt_zero j)) (fun _ _ => rfl)
set_option maxRecDepth 8000 in
theorem wcl_loop {n : Nat} {J : Nat → Nat → Int64} {K : dw_K} {I0 : Nat → Nat → Int32}
    (hk : ∀ I' : Nat → Nat → Int32, (∀ a, (a < 195 ∨ 200 < a) → I' a = I0 a) → (∀ j, j < 144 → wT I' j = (-1, -1, 0, 0, 0, -1)) → K none (n, SH1, I', J)) :
    ∀ (f k : Nat) (c : Int32) (I : Nat → Nat → Int32), k + f = 144 → c.toInt = k → (∀ a, (a < 195 ∨ 200 < a) → I a = I0 a) → (∀ j, j < k → wT I j = (-1, -1, 0, 0, 0, -1)) → dw_ok (pr_X10_clear K) 2 0 0 [some (.ref 194), some (.int c)] [] (n, SH1, I, J) := by
  have cm1 : (-1 : Int32).toInt = -1 := rfl
  have k0 : (0 : Int32).toInt = 0 := rfl
  have k1 : (1 : Int32).toInt = 1 := rfl
  intro f
  induction f with
  | zero =>
    intro k c I hf hc hfr h1
    obtain rfl : k = 144 := by omega
    refine q_ild rfl rfl ?_
    refine q_ic rfl ?_
    refine q_icmp (c := 3) rfl (by decide) (fun y1 => ?_) (fun h => absurd (show (c).toInt < (144 : Int) from h) (by omega))
    have y1 : (144 : Int) ≤ (c).toInt := y1
    exact q_vret rfl (hk I hfr h1)
  | succ f ih =>
    intro k c I hf hc hfr h1
    have hcn : c.toInt.toNat = k := by omega
    refine q_ild rfl rfl ?_
    refine q_ic rfl ?_
    refine q_icmp (c := 3) rfl (by decide) (fun h => absurd (show (144 : Int) ≤ (c).toInt from h) (by omega)) (fun y2 => ?_)
    have y2 : (c).toInt < (144 : Int) := y2
    refine q_ald rfl rfl ?_
    refine q_getr rfl sk_194 sr_194_0 ?_
    refine q_ild rfl rfl ?_
    refine q_ic rfl ?_
    refine q_iast rfl sk_195 sn_195 (by omega) (by omega) ?_
    show dw_ok (pr_X10_clear K) 16 0 0 [some (.ref 194), some (.int c)] [] (n, SH1, (dw_up I 195 (c).toInt.toNat (-1 : Int32)), J)
    rw [hcn]
    refine q_ald rfl rfl ?_
    refine q_getr rfl sk_194 sr_194_1 ?_
    refine q_ild rfl rfl ?_
    refine q_ic rfl ?_
    refine q_iast rfl sk_196 sn_196 (by omega) (by omega) ?_
    show dw_ok (pr_X10_clear K) 23 0 0 [some (.ref 194), some (.int c)] [] (n, SH1, (dw_up (dw_up I 195 k (-1 : Int32)) 196 (c).toInt.toNat (-1 : Int32)), J)
    rw [hcn]
    refine q_ald rfl rfl ?_
    refine q_getr rfl sk_194 sr_194_2 ?_
    refine q_ild rfl rfl ?_
    refine q_ic rfl ?_
    refine q_iast rfl sk_197 sn_197 (by omega) (by omega) ?_
    show dw_ok (pr_X10_clear K) 30 0 0 [some (.ref 194), some (.int c)] [] (n, SH1, (dw_up (dw_up (dw_up I 195 k (-1 : Int32)) 196 k (-1 : Int32)) 197 (c).toInt.toNat (0 : Int32)), J)
    rw [hcn]
    refine q_ald rfl rfl ?_
    refine q_getr rfl sk_194 sr_194_3 ?_
    refine q_ild rfl rfl ?_
    refine q_ic rfl ?_
    refine q_iast rfl sk_198 sn_198 (by omega) (by omega) ?_
    show dw_ok (pr_X10_clear K) 37 0 0 [some (.ref 194), some (.int c)] [] (n, SH1, (dw_up (dw_up (dw_up (dw_up I 195 k (-1 : Int32)) 196 k (-1 : Int32)) 197 k (0 : Int32)) 198 (c).toInt.toNat (0 : Int32)), J)
    rw [hcn]
    refine q_ald rfl rfl ?_
    refine q_getr rfl sk_194 sr_194_4 ?_
    refine q_ild rfl rfl ?_
    refine q_ic rfl ?_
    refine q_iast rfl sk_199 sn_199 (by omega) (by omega) ?_
    show dw_ok (pr_X10_clear K) 44 0 0 [some (.ref 194), some (.int c)] [] (n, SH1, (dw_up (dw_up (dw_up (dw_up (dw_up I 195 k (-1 : Int32)) 196 k (-1 : Int32)) 197 k (0 : Int32)) 198 k (0 : Int32)) 199 (c).toInt.toNat (0 : Int32)), J)
    rw [hcn]
    refine q_ald rfl rfl ?_
    refine q_getr rfl sk_194 sr_194_5 ?_
    refine q_ild rfl rfl ?_
    refine q_ic rfl ?_
    refine q_iast rfl sk_200 sn_200 (by omega) (by omega) ?_
    show dw_ok (pr_X10_clear K) 51 0 0 [some (.ref 194), some (.int c)] [] (n, SH1, (dw_up (dw_up (dw_up (dw_up (dw_up (dw_up I 195 k (-1 : Int32)) 196 k (-1 : Int32)) 197 k (0 : Int32)) 198 k (0 : Int32)) 199 k (0 : Int32)) 200 (c).toInt.toNat (-1 : Int32)), J)
    rw [hcn]
    refine q_inc rfl rfl rfl ?_
    show dw_ok (pr_X10_clear K) 54 0 0 [some (.ref 194), some (.int (c + 1))] [] (n, SH1, (dw_up (dw_up (dw_up (dw_up (dw_up (dw_up I 195 k (-1 : Int32)) 196 k (-1 : Int32)) 197 k (0 : Int32)) 198 k (0 : Int32)) 199 k (0 : Int32)) 200 k (-1 : Int32)), J)
    show dw_ok (pr_X10_clear K) 54 0 0 [some (.ref 194), some (.int (c + 1))] [] (n, SH1, (dw_up (dw_up (dw_up (dw_up (dw_up (dw_up I 195 k (-1 : Int32)) 196 k (-1 : Int32)) 197 k (0 : Int32)) 198 k (0 : Int32)) 199 k (0 : Int32)) 200 k (-1 : Int32)), J)
    obtain ⟨cx, hcx⟩ : ∃ z, z = (c + 1) := ⟨_, rfl⟩
    rw [← hcx]
    have ecx : cx.toInt = ((k + 1 : Nat) : Int) := by rw [hcx]; exact ix_1 hc (by omega)
    refine q_goto rfl ?_
    obtain ⟨u1, u2, u3⟩ := up6 (I := I) (k := k) (x1 := (-1 : Int32)) (x2 := (-1 : Int32)) (x3 := (0 : Int32)) (x4 := (0 : Int32)) (x5 := (0 : Int32)) (x6 := (-1 : Int32))
    refine ih (k + 1) cx _ (by omega) ecx (fun a ha => (u1 a ha).trans (hfr a ha)) (fun j hj => ?_)
    by_cases e : j = k
    · rw [e]; exact u3
    · exact (u2 j e).trans (h1 j (by omega))
set_option maxRecDepth 8000 in
theorem v_wclear {n : Nat} {I : Nat → Nat → Int32} {J : Nat → Nat → Int64} {K : dw_K} (hk : ∀ I' : Nat → Nat → Int32, (∀ a, (a < 195 ∨ 200 < a) → I' a = I a) → (∀ j, j < 144 → wT I' j = (-1, -1, 0, 0, 0, -1)) → K none (n, SH1, I', J)) : t_X10_clear [.ref 194] (n, SH1, I, J) K := by
  refine q_body (Nat.le_of_ble_eq_true rfl) ?_
  refine q_ic rfl ?_
  refine q_ist rfl rfl ?_
  exact wcl_loop (I0 := I) hk 144 0 0 I rfl rfl (fun _ _ => rfl) (fun j hj => absurd hj (Nat.not_lt_zero j))
/-- water and warmth of a CELL behind STEP t -/
def wAt (R S : Nat → Int32) (c : Nat) : Nat → Int32 := fun t => (runW R S 0 (t + 1)).2.1 c
def wMt (R S : Nat → Int32) (c : Nat) : Nat → Int32 := fun t => (runW R S 0 (t + 1)).1 c
/-- what is seen of CELL c -/
def wkR (R S : Nat → Int32) (c : Nat) : Nat → wK := wlkF (wAt R S c) (wMt R S c)
set_option maxRecDepth 8000 in
theorem wtd_loop {n : Nat} {J : Nat → Nat → Int64} {K : dw_K} {R S : Nat → Int32} {x : Int32} {I0 : Nat → Nat → Int32} (hG : GOK R)
    (hk : ∀ I' : Nat → Nat → Int32, (∀ c, c < Nn R → wT I' c = wkR R S c 144) → (∀ a, a < 164 → I' a = I0 a) → K (some (.int 1)) (n, SH1, I', J)) :
    ∀ (f k : Nat) (t : Int32) (I : Nat → Nat → Int32), k + f = 144 → t.toInt = k → (∀ c, c < Nn R → wT I c = wkR R S c k) → (∀ a, a < 164 → I a = I0 a) → CSK I 164 (Nn R) 0 (fun _ => gC R) (gT S) (g0S R S) 0 k → dw_ok (pr_X11_watched K) 23 0 0 [some (.ref 0), some (.int x), some (.int t)] [] (n, SH1, I, J) := by
  have cm1 : (-1 : Int32).toInt = -1 := rfl
  have k0 : (0 : Int32).toInt = 0 := rfl
  have k1 : (1 : Int32).toInt = 1 := rfl
  have hN9 := (gok_N hG).2
  intro f
  induction f with
  | zero =>
    intro k t I hf ht hw hfr hM
    obtain rfl : k = 144 := by omega
    refine q_ild rfl rfl ?_
    refine q_ic rfl ?_
    refine q_icmp (c := 3) rfl (by decide) (fun y1 => ?_) (fun h => absurd (show (t).toInt < (144 : Int) from h) (by omega))
    have y1 : (144 : Int) ≤ (t).toInt := y1
    refine q_ic rfl ?_
    exact q_zret rfl (Or.inr rfl) (hk I hw hfr)
  | succ f ih =>
    intro k t I hf ht hw hfr hM
    have eo := of_nat ht (by omega)
    refine q_ild rfl rfl ?_
    refine q_ic rfl ?_
    refine q_icmp (c := 3) rfl (by decide) (fun h => absurd (show (144 : Int) ≤ (t).toInt from h) (by omega)) (fun y2 => ?_)
    have y2 : (t).toInt < (144 : Int) := y2
    refine q_ald rfl rfl ?_
    refine q_getr rfl sk_0 sr_0_6 ?_
    refine q_callV (as := []) (rest := []) rfl rfl sk_164 rfl (Nat.le_of_ble_eq_true rfl) ?_
    refine v_stepR (A := 164) (rt_ok (by decide)) hM (by omega) hN9 (fun I1 g1 g2 hM1 => ?_)
    show dw_ok (pr_X11_watched K) 37 0 0 [some (.ref 0), some (.int x), some (.int t)] [] (n, SH1, I1, J)
    refine q_ald rfl rfl ?_
    refine q_getr rfl sk_0 sr_0_8 ?_
    refine q_ald rfl rfl ?_
    refine q_getr rfl sk_0 sr_0_6 ?_
    refine q_ild rfl rfl ?_
    refine q_callV (as := [.ref 164, .int t]) (rest := []) rfl rfl sk_194 rfl (Nat.le_of_ble_eq_true rfl) ?_
    refine v_look (N := Nn R) hM1.2.2.2.1 hN9 (fun I2 r1 r2 => ?_)
    show dw_ok (pr_X11_watched K) 49 0 0 [some (.ref 0), some (.int x), some (.int t)] [] (n, SH1, I2, J)
    refine q_inc rfl rfl rfl ?_
    show dw_ok (pr_X11_watched K) 52 0 0 [some (.ref 0), some (.int x), some (.int (t + 1))] [] (n, SH1, I2, J)
    show dw_ok (pr_X11_watched K) 52 0 0 [some (.ref 0), some (.int x), some (.int (t + 1))] [] (n, SH1, I2, J)
    obtain ⟨tx, htx⟩ : ∃ z, z = (t + 1) := ⟨_, rfl⟩
    rw [← htx]
    have etx : tx.toInt = ((k + 1 : Nat) : Int) := by rw [htx]; exact ix_1 ht (by omega)
    refine q_goto rfl ?_
    refine ih (k + 1) tx I2 (by omega) etx (fun c hc => ?_) (fun a ha => (r1 a (by omega)).trans ((g1 a (by omega) (by omega) (by omega)).trans (hfr a ha))) (csk_fr (fun a p q => r1 a (by omega)) hM1)
    have e1 : wT I1 c = wkR R S c k := (wT_eq (congrFun (g1 195 (by decide) (by decide) (by decide)) c) (congrFun (g1 196 (by decide) (by decide) (by decide)) c) (congrFun (g1 197 (by decide) (by decide) (by decide)) c) (congrFun (g1 198 (by decide) (by decide) (by decide)) c) (congrFun (g1 199 (by decide) (by decide) (by decide)) c) (congrFun (g1 200 (by decide) (by decide) (by decide)) c)).trans (hw c hc)
    have ea : I1 (164 + 14) c = wAt R S c k := hM1.2.2.1.2.1 c hc
    have em : I1 (164 + 13) c = wMt R S c k := hM1.2.2.1.1 c hc
    rw [r2 c hc, e1, ea, em, eo]
    rfl
set_option maxRecDepth 8000 in
theorem v_watched {n : Nat} {I : Nat → Nat → Int32} {J : Nat → Nat → Int64} {K : dw_K} {R : Nat → Int32} (hR : SREL I 3 R) {x : Int32} (h1 : ∀ s : Nat, s < 6 → x.toInt = s → NOK (nS R s) → ∀ I' : Nat → Nat → Int32, (∀ c, c < Nn R → wT I' c = wkR R (nS R s) c 144) → (∀ a, a < 164 → I' a = I a) → K (some (.int 1)) (n, SH1, I', J)) (h0 : (∀ s : Nat, s < 6 → x.toInt = s → (nS R s 0).toInt < 0) → ∀ I' : Nat → Nat → Int32, K (some (.int 0)) (n, SH1, I', J)) : t_X11_watched [.ref 0, .int x] (n, SH1, I, J) K := by
  have cm1 : (-1 : Int32).toInt = -1 := rfl
  have k0 : (0 : Int32).toInt = 0 := rfl
  have k1 : (1 : Int32).toInt = 1 := rfl
  refine q_body (Nat.le_of_ble_eq_true rfl) ?_
  refine q_ald rfl rfl ?_
  refine q_ald rfl rfl ?_
  refine q_getr rfl sk_0 sr_0_6 ?_
  refine q_ild rfl rfl ?_
  refine q_callV (as := [.ref 164, .int x]) (rest := []) rfl rfl sk_0 rfl (Nat.le_of_ble_eq_true rfl) ?_
  refine v_startR hR (Or.inr (Or.inl rfl)) (fun s hs hxs hS I1 q0 _ hC _ _ _ => ?_) (fun hno => ?_)
  · show dw_ok (pr_X11_watched K) 9 0 0 [some (.ref 0), some (.int x), none] [.int (1 : Int32)] (n, SH1, I1, J)
    refine q_if (c := 1) rfl (by decide) (fun y1 => ?_) (fun h => absurd (show (1 : Int) = 0 from h) (by decide))
    have y1 : (1 : Int) ≠ 0 := y1
    refine q_ald rfl rfl ?_
    refine q_getr rfl sk_0 sr_0_8 ?_
    refine q_callV (as := []) (rest := []) rfl rfl sk_194 rfl (Nat.le_of_ble_eq_true rfl) ?_
    refine v_wclear (fun I2 r1 r2 => ?_)
    show dw_ok (pr_X11_watched K) 21 0 0 [some (.ref 0), some (.int x), none] [] (n, SH1, I2, J)
    refine q_ic rfl ?_
    refine q_ist rfl rfl ?_
    show dw_ok (pr_X11_watched K) 23 0 0 [some (.ref 0), some (.int x), some (.int (0 : Int32))] [] (n, SH1, I2, J)
    exact wtd_loop (S := nS R s) (I0 := I) hR.1 (fun I' h3 h4 => h1 s hs hxs hS I' h3 h4) 144 0 0 I2 rfl rfl (fun c hc => (r2 c (by have := (gok_N hR.1).2; omega)).trans rfl) (fun a ha => (r1 a (by omega)).trans (q0 a (by omega))) (csk_fr (fun a p q => r1 a (by omega)) (cst_k hR.1 hC))
  · show dw_ok (pr_X11_watched K) 9 0 0 [some (.ref 0), some (.int x), none] [.int (0 : Int32)] (n, SH1, I, J)
    refine q_if (c := 1) rfl (by decide) (fun h => absurd (show (0 : Int) ≠ 0 from h) (by decide)) (fun y2 => ?_)
    have y2 : (0 : Int) = 0 := y2
    refine q_ic rfl ?_
    exact q_zret rfl (Or.inl rfl) (h0 hno I)
set_option maxRecDepth 8000 in
theorem fs_snoc {p : Nat → Bool} : ∀ (f t : Nat), fsF p t (f + 1) = if fsF p t f = -1 then (if p (t + f) = true then ((t + f : Nat) : Int) else -1) else fsF p t f
  | 0, t => by
    show (if p t = true then ((t : Nat) : Int) else -1) = if (-1 : Int) = -1 then (if p (t + 0) = true then ((t + 0 : Nat) : Int) else -1) else -1
    rw [if_pos (show (-1 : Int) = -1 from rfl), Nat.add_zero]
  | f + 1, t => by
    have ih := fs_snoc (p := p) f (t + 1)
    show (if p t = true then ((t : Nat) : Int) else fsF p (t + 1) (f + 1)) = if (if p t = true then ((t : Nat) : Int) else fsF p (t + 1) f) = -1 then (if p (t + (f + 1)) = true then ((t + (f + 1) : Nat) : Int) else -1) else (if p t = true then ((t : Nat) : Int) else fsF p (t + 1) f)
    by_cases h : p t = true
    · rw [if_pos h, if_pos h, if_neg (show ¬ ((t : Nat) : Int) = -1 by omega)]
    · rw [if_neg h, if_neg h, ih, show t + 1 + f = t + (f + 1) by omega]
/-- the last below k -/
def lsF (p : Nat → Bool) : Nat → Int
  | 0 => -1
  | k + 1 => if p k = true then ((k : Nat) : Int) else lsF p k
set_option maxRecDepth 8000 in
theorem ls_b {p : Nat → Bool} : ∀ k : Nat, -1 ≤ lsF p k ∧ lsF p k < k
  | 0 => ⟨Int.le_refl _, by show (-1 : Int) < ((0 : Nat) : Int); omega⟩
  | k + 1 => by
    have ih := ls_b (p := p) k
    show -1 ≤ (if p k = true then ((k : Nat) : Int) else lsF p k) ∧ (if p k = true then ((k : Nat) : Int) else lsF p k) < ((k + 1 : Nat) : Int)
    by_cases h : p k = true
    · rw [if_pos h]; omega
    · rw [if_neg h]; omega
def pW (wa : Nat → Int32) : Nat → Bool := fun t => decide (0 < (wa t).toInt)
def pZ (wa wm : Nat → Int32) : Nat → Bool := fun t => decide (0 < (wa t).toInt ∧ (wm t).toInt < 0)
set_option maxRecDepth 8000 in
theorem pw_y {wa : Nat → Int32} {t : Nat} (h : 0 < (wa t).toInt) : pW wa t = true := decide_eq_true h
set_option maxRecDepth 8000 in
theorem pw_n {wa : Nat → Int32} {t : Nat} (h : ¬ 0 < (wa t).toInt) : pW wa t = false := decide_eq_false h
set_option maxRecDepth 8000 in
theorem pz_y {wa wm : Nat → Int32} {t : Nat} (h : 0 < (wa t).toInt ∧ (wm t).toInt < 0) : pZ wa wm t = true := decide_eq_true h
set_option maxRecDepth 8000 in
theorem pz_n {wa wm : Nat → Int32} {t : Nat} (h : ¬ (0 < (wa t).toInt ∧ (wm t).toInt < 0)) : pZ wa wm t = false := decide_eq_false h
set_option maxRecDepth 8000 in
theorem m1_id {x : Int} : x = if x = -1 then -1 else x := by
  by_cases g : x = -1
  · rw [if_pos g, g]
  · rw [if_neg g]
set_option maxRecDepth 8000 in
theorem wk_f {wa wm : Nat → Int32} : ∀ k : Nat, k ≤ 1000 → (wlkF wa wm k).1.toInt = fsF (pW wa) 0 k ∧ (wlkF wa wm k).2.1.toInt = lsF (pW wa) k ∧ (wlkF wa wm k).2.2.2.2.2.toInt = fsF (pZ wa wm) 0 k ∧ 0 ≤ (wlkF wa wm k).2.2.2.2.1.toInt
  | 0, _ => ⟨rfl, rfl, rfl, Int.le_refl 0⟩
  | k + 1, hk => by
    obtain ⟨h1, h2, h3, h4⟩ := wk_f (wa := wa) (wm := wm) k (by omega)
    have eo : (Int32.ofNat k).toInt = k := Int32.toInt_ofNat_of_lt (by omega)
    have s1 : fsF (pW wa) 0 (k + 1) = if fsF (pW wa) 0 k = -1 then (if pW wa k = true then ((k : Nat) : Int) else -1) else fsF (pW wa) 0 k := by
      have q := fs_snoc (p := pW wa) k 0
      rw [Nat.zero_add] at q; exact q
    have s3 : fsF (pZ wa wm) 0 (k + 1) = if fsF (pZ wa wm) 0 k = -1 then (if pZ wa wm k = true then ((k : Nat) : Int) else -1) else fsF (pZ wa wm) 0 k := by
      have q := fs_snoc (p := pZ wa wm) k 0
      rw [Nat.zero_add] at q; exact q
    have s2 : lsF (pW wa) (k + 1) = if pW wa k = true then ((k : Nat) : Int) else lsF (pW wa) k := rfl
    by_cases h : 0 < (wa k).toInt
    · have p1 := pw_y h
      rw [wlkF_s, wk1_y h]
      refine ⟨?_, ?_, ?_, ?_⟩
      · show (if (wlkF wa wm k).1.toInt = -1 then Int32.ofNat k else (wlkF wa wm k).1).toInt = _
        rw [s1, if_pos p1, ← h1]
        by_cases g : (wlkF wa wm k).1.toInt = -1
        · rw [if_pos g, if_pos g, eo]
        · rw [if_neg g, if_neg g]
      · show (Int32.ofNat k).toInt = _
        rw [s2, if_pos p1, eo]
      · show (if (wm k).toInt < 0 ∧ (wlkF wa wm k).2.2.2.2.2.toInt = -1 then Int32.ofNat k else (wlkF wa wm k).2.2.2.2.2).toInt = _
        by_cases m : (wm k).toInt < 0
        · have p3 := pz_y ⟨h, m⟩
          rw [s3, if_pos p3, ← h3]
          by_cases g : (wlkF wa wm k).2.2.2.2.2.toInt = -1
          · rw [if_pos ⟨m, g⟩, if_pos g, eo]
          · rw [if_neg (fun q => g q.2), if_neg g]
        · have p3 : ¬ (pZ wa wm k = true) := by rw [pz_n (fun q => m q.2)]; decide
          rw [s3, if_neg (fun q => m q.1), if_neg p3, ← h3]
          exact m1_id
      · show 0 ≤ (fi_max (wlkF wa wm k).2.2.2.2.1 ((wlkF wa wm k).2.2.2.1 + 1)).toInt
        rw [fi_max_i]; omega
    · have n1 : ¬ (pW wa k = true) := by rw [pw_n h]; decide
      have p3 : ¬ (pZ wa wm k = true) := by rw [pz_n (fun q => h q.1)]; decide
      rw [wlkF_s, wk1_n h]
      refine ⟨?_, ?_, ?_, h4⟩
      · show (wlkF wa wm k).1.toInt = _
        rw [s1, if_neg n1, ← h1]; exact m1_id
      · show (wlkF wa wm k).2.1.toInt = _
        rw [s2, if_neg n1]; exact h2
      · show (wlkF wa wm k).2.2.2.2.2.toInt = _
        rw [s3, if_neg p3, ← h3]; exact m1_id
set_option maxRecDepth 8000 in
theorem fmx_l {a b : Int32} (h : b.toInt ≤ a.toInt) : fi_max a b = a := i_eq (by rw [fi_max_i]; omega)
set_option maxRecDepth 8000 in
theorem fmx_r {a b : Int32} (h : a.toInt < b.toInt) : fi_max a b = b := i_eq (by rw [fi_max_i]; omega)
set_option maxRecDepth 8000 in
theorem wlkF_y {wa wm : Nat → Int32} {k : Nat} (h : 0 < (wa k).toInt) : (wlkF wa wm (k + 1)).2.2.1 = (wlkF wa wm k).2.2.1 + 1 ∧ (wlkF wa wm (k + 1)).2.2.2.1 = (wlkF wa wm k).2.2.2.1 + 1 ∧ (wlkF wa wm (k + 1)).2.2.2.2.1 = fi_max (wlkF wa wm k).2.2.2.2.1 ((wlkF wa wm k).2.2.2.1 + 1) := by
  rw [wlkF_s, wk1_y h]
  exact ⟨rfl, rfl, rfl⟩
set_option maxRecDepth 8000 in
theorem wlkF_n {wa wm : Nat → Int32} {k : Nat} (h : ¬ 0 < (wa k).toInt) : (wlkF wa wm (k + 1)).2.2.1 = (wlkF wa wm k).2.2.1 ∧ (wlkF wa wm (k + 1)).2.2.2.1 = 0 ∧ (wlkF wa wm (k + 1)).2.2.2.2.1 = (wlkF wa wm k).2.2.2.2.1 := by
  rw [wlkF_s, wk1_n h]
  exact ⟨rfl, rfl, rfl⟩
set_option maxRecDepth 8000 in
theorem wk_R {R S : Nat → Int32} {c : Nat} : (wkR R S c 144).1.toInt = fsF (pW (wAt R S c)) 0 144 ∧ (wkR R S c 144).2.1.toInt = lsF (pW (wAt R S c)) 144 ∧ (wkR R S c 144).2.2.2.2.2.toInt = fsF (pZ (wAt R S c) (wMt R S c)) 0 144 := by
  unfold wkR
  obtain ⟨h1, h2, h3, -⟩ := wk_f (wa := wAt R S c) (wm := wMt R S c) 144 (by decide)
  exact ⟨h1, h2, h3⟩
/-- gone: from the last wet STEP -/
def gnF (l : Int) : Int := if l = -1 ∨ l = 143 then -1 else l + 1
def aBegins (R : Nat → Int32) (s x y : Int32) : Int := if okS R s ∧ okC R x y then (wkR R (nX R s) (cN R x y) 144).1.toInt else -1
def aGone (R : Nat → Int32) (s x y : Int32) : Int := if okS R s ∧ okC R x y then gnF (wkR R (nX R s) (cN R x y) 144).2.1.toInt else -1
def aWet (R : Nat → Int32) (s x y : Int32) : Int := if okS R s ∧ okC R x y then (wkR R (nX R s) (cN R x y) 144).2.2.1.toInt else -1
def aSpell (R : Nat → Int32) (s x y : Int32) : Int := if okS R s ∧ okC R x y then (wkR R (nX R s) (cN R x y) 144).2.2.2.2.1.toInt else -1
def aFrost (R : Nat → Int32) (s x y : Int32) : Int := if okS R s ∧ okC R x y then (wkR R (nX R s) (cN R x y) 144).2.2.2.2.2.toInt else -1
abbrev lgR (R S : Nat → Int32) : Nat → Int32 := fun c => (wkR R S c 144).2.2.2.2.1
def aSick (R : Nat → Int32) (s m : Int32) : Int := if okS R s ∧ 1 ≤ m.toInt ∧ m.toInt ≤ 144 then (wcF (lgR R (nX R s)) m (Nn R) : Int) else -1
set_option maxRecDepth 8000 in
theorem v_wtell {n : Nat} {I : Nat → Nat → Int32} {J : Nat → Nat → Int64} {K : dw_K} {a k : Nat} {c : Int32} (ka : (SH1 a).1 = 16) (na : (SH1 a).2.1 = 144) (hc : c.toInt = k) (hk9 : k < 144) (hk : K (some (.int (I a k))) (n, SH1, I, J)) : t_X10_tell [.ref 194, .ref a, .int c] (n, SH1, I, J) K := by
  have c144 : (144 : Int32).toInt = 144 := rfl
  refine q_body (Nat.le_of_ble_eq_true rfl) ?_
  refine q_ild rfl rfl ?_
  refine q_if (c := 2) rfl (by decide) (fun h => absurd (show c.toInt < 0 from h) (by omega)) (fun _ => ?_)
  refine q_ild rfl rfl ?_
  refine q_ald rfl rfl ?_
  refine q_alen2 (kd := 16) (N := 144) rfl ka na (by decide) (by decide) ?_
  refine q_icmp (c := 3) rfl (by decide) (fun h => absurd (show (144 : Int32).toInt ≤ c.toInt from h) (by omega)) (fun _ => ?_)
  refine q_ald rfl rfl ?_
  refine q_ild rfl rfl ?_
  refine q_xald rfl (Or.inl rfl) ka na (by omega) (by omega) ?_
  rw [show c.toInt.toNat = k by omega]
  refine q_goto rfl ?_
  exact q_iret rfl hk
set_option maxRecDepth 8000 in
theorem v_cbegins {n : Nat} {I : Nat → Nat → Int32} {J : Nat → Nat → Int64} {K : dw_K} {R : Nat → Int32} (hR : SREL I 3 R) {a1 a2 a3 : Int32} (hk : ∀ (w : Int32) (I' : Nat → Nat → Int32), w.toInt = aBegins R a1 a2 a3 → K (some (.int w)) (n, SH1, I', J)) : t_X11_begins [.ref 0, .int a1, .int a2, .int a3] (n, SH1, I, J) K := by
  have cm1 : (-1 : Int32).toInt = -1 := rfl
  have k0 : (0 : Int32).toInt = 0 := rfl
  have k1 : (1 : Int32).toInt = 1 := rfl
  refine q_body (Nat.le_of_ble_eq_true rfl) ?_
  refine q_ald rfl rfl ?_
  refine q_getr rfl sk_0 sr_0_1 ?_
  refine q_getr rfl sk_3 sr_3_1 ?_
  refine q_ild rfl rfl ?_
  refine q_ild rfl rfl ?_
  refine q_callV (as := [.int a2, .int a3]) (rest := []) rfl rfl sk_4 rfl (Nat.le_of_ble_eq_true rfl) ?_
  refine v_cellAt2 (R := R) hR.1 ((rg_3 hR).1 0 (by decide)) ((rg_3 hR).1 1 (by decide)) (fun k2 c1 ec1 => ?_) (fun k2 => ?_)
  · show dw_ok (pr_X11_begins K) 12 0 0 [some (.ref 0), some (.int a1), some (.int a2), some (.int a3), none] [.int c1] (n, SH1, I, J)
    refine q_ist rfl rfl ?_
    show dw_ok (pr_X11_begins K) 14 0 0 [some (.ref 0), some (.int a1), some (.int a2), some (.int a3), some (.int c1)] [] (n, SH1, I, J)
    refine q_ild rfl rfl ?_
    refine q_ic rfl ?_
    refine q_icmp (c := 0) rfl (by decide) (fun h => absurd (show (c1).toInt = (-1 : Int) from h) (by have := ec1; omega)) (fun y3 => ?_)
    have y3 : (c1).toInt ≠ (-1 : Int) := y3
    refine q_ald rfl rfl ?_
    refine q_ild rfl rfl ?_
    refine q_callV (as := [.int a1]) (rest := []) rfl rfl sk_0 rfl (Nat.le_of_ble_eq_true rfl) ?_
    refine v_watched hR (fun s hs hxs hS I1 hw hfr => ?_) (fun hno I1 => ?_)
    · show dw_ok (pr_X11_begins K) 25 0 0 [some (.ref 0), some (.int a1), some (.int a2), some (.int a3), some (.int c1)] [.int (1 : Int32)] (n, SH1, I1, J)
      refine q_if (c := 0) rfl (by decide) (fun h => absurd (show (1 : Int) = 0 from h) (by decide)) (fun y4 => ?_)
      have y4 : (1 : Int) ≠ 0 := y4
      refine q_ald rfl rfl ?_
      refine q_getr rfl sk_0 sr_0_8 ?_
      refine q_ald rfl rfl ?_
      refine q_getr rfl sk_0 sr_0_8 ?_
      refine q_getr rfl sk_194 sr_194_0 ?_
      refine q_ild rfl rfl ?_
      refine q_callV (as := [.ref 195, .int c1]) (rest := []) rfl rfl sk_194 rfl (Nat.le_of_ble_eq_true rfl) ?_
      have cl := cN_lt k2
      have cl9 := (gok_N hR.1).2
      refine v_wtell (a := 195) (k := cN R a2 a3) sk_195 sn_195 ec1 (by omega) ?_
      show dw_ok (pr_X11_begins K) 44 0 0 [some (.ref 0), some (.int a1), some (.int a2), some (.int a3), some (.int c1)] [.int (I1 195 (cN R a2 a3))] (n, SH1, I1, J)
      refine q_goto rfl ?_
      obtain ⟨oS, eS⟩ := okS_of hs hxs hS
      refine q_iret rfl (hk _ _ ?_)
      unfold aBegins
      rw [if_pos ⟨oS, k2⟩, eS]
      exact congrArg (fun z : wK => z.1.toInt) (hw _ cl)
    · show dw_ok (pr_X11_begins K) 25 0 0 [some (.ref 0), some (.int a1), some (.int a2), some (.int a3), some (.int c1)] [.int (0 : Int32)] (n, SH1, I1, J)
      refine q_if (c := 0) rfl (by decide) (fun y5 => ?_) (fun h => absurd (show (0 : Int) ≠ 0 from h) (by decide))
      have y5 : (0 : Int) = 0 := y5
      refine q_ic rfl ?_
      refine q_iret rfl (hk _ _ ?_)
      unfold aBegins
      rw [if_neg (fun q => okS_no hno q.1)]
      exact cm1
  · show dw_ok (pr_X11_begins K) 12 0 0 [some (.ref 0), some (.int a1), some (.int a2), some (.int a3), none] [.int (-1 : Int32)] (n, SH1, I, J)
    refine q_ist rfl rfl ?_
    show dw_ok (pr_X11_begins K) 14 0 0 [some (.ref 0), some (.int a1), some (.int a2), some (.int a3), some (.int (-1 : Int32))] [] (n, SH1, I, J)
    refine q_ild rfl rfl ?_
    refine q_ic rfl ?_
    refine q_icmp (c := 0) rfl (by decide) (fun y6 => ?_) (fun h => absurd (show (-1 : Int) ≠ (-1 : Int) from h) (by omega))
    have y6 : (-1 : Int) = (-1 : Int) := y6
    refine q_ic rfl ?_
    refine q_iret rfl (hk _ _ ?_)
    unfold aBegins
    rw [if_neg (fun q => k2 q.2)]
    exact cm1
set_option maxRecDepth 8000 in
theorem v_cwet {n : Nat} {I : Nat → Nat → Int32} {J : Nat → Nat → Int64} {K : dw_K} {R : Nat → Int32} (hR : SREL I 3 R) {a1 a2 a3 : Int32} (hk : ∀ (w : Int32) (I' : Nat → Nat → Int32), w.toInt = aWet R a1 a2 a3 → K (some (.int w)) (n, SH1, I', J)) : t_X11_wet [.ref 0, .int a1, .int a2, .int a3] (n, SH1, I, J) K := by
  have cm1 : (-1 : Int32).toInt = -1 := rfl
  have k0 : (0 : Int32).toInt = 0 := rfl
  have k1 : (1 : Int32).toInt = 1 := rfl
  refine q_body (Nat.le_of_ble_eq_true rfl) ?_
  refine q_ald rfl rfl ?_
  refine q_getr rfl sk_0 sr_0_1 ?_
  refine q_getr rfl sk_3 sr_3_1 ?_
  refine q_ild rfl rfl ?_
  refine q_ild rfl rfl ?_
  refine q_callV (as := [.int a2, .int a3]) (rest := []) rfl rfl sk_4 rfl (Nat.le_of_ble_eq_true rfl) ?_
  refine v_cellAt2 (R := R) hR.1 ((rg_3 hR).1 0 (by decide)) ((rg_3 hR).1 1 (by decide)) (fun k2 c1 ec1 => ?_) (fun k2 => ?_)
  · show dw_ok (pr_X11_wet K) 12 0 0 [some (.ref 0), some (.int a1), some (.int a2), some (.int a3), none] [.int c1] (n, SH1, I, J)
    refine q_ist rfl rfl ?_
    show dw_ok (pr_X11_wet K) 14 0 0 [some (.ref 0), some (.int a1), some (.int a2), some (.int a3), some (.int c1)] [] (n, SH1, I, J)
    refine q_ild rfl rfl ?_
    refine q_ic rfl ?_
    refine q_icmp (c := 0) rfl (by decide) (fun h => absurd (show (c1).toInt = (-1 : Int) from h) (by have := ec1; omega)) (fun y3 => ?_)
    have y3 : (c1).toInt ≠ (-1 : Int) := y3
    refine q_ald rfl rfl ?_
    refine q_ild rfl rfl ?_
    refine q_callV (as := [.int a1]) (rest := []) rfl rfl sk_0 rfl (Nat.le_of_ble_eq_true rfl) ?_
    refine v_watched hR (fun s hs hxs hS I1 hw hfr => ?_) (fun hno I1 => ?_)
    · show dw_ok (pr_X11_wet K) 25 0 0 [some (.ref 0), some (.int a1), some (.int a2), some (.int a3), some (.int c1)] [.int (1 : Int32)] (n, SH1, I1, J)
      refine q_if (c := 0) rfl (by decide) (fun h => absurd (show (1 : Int) = 0 from h) (by decide)) (fun y4 => ?_)
      have y4 : (1 : Int) ≠ 0 := y4
      refine q_ald rfl rfl ?_
      refine q_getr rfl sk_0 sr_0_8 ?_
      refine q_ald rfl rfl ?_
      refine q_getr rfl sk_0 sr_0_8 ?_
      refine q_getr rfl sk_194 sr_194_2 ?_
      refine q_ild rfl rfl ?_
      refine q_callV (as := [.ref 197, .int c1]) (rest := []) rfl rfl sk_194 rfl (Nat.le_of_ble_eq_true rfl) ?_
      have cl := cN_lt k2
      have cl9 := (gok_N hR.1).2
      refine v_wtell (a := 197) (k := cN R a2 a3) sk_197 sn_197 ec1 (by omega) ?_
      show dw_ok (pr_X11_wet K) 44 0 0 [some (.ref 0), some (.int a1), some (.int a2), some (.int a3), some (.int c1)] [.int (I1 197 (cN R a2 a3))] (n, SH1, I1, J)
      refine q_goto rfl ?_
      obtain ⟨oS, eS⟩ := okS_of hs hxs hS
      refine q_iret rfl (hk _ _ ?_)
      unfold aWet
      rw [if_pos ⟨oS, k2⟩, eS]
      exact congrArg (fun z : wK => z.2.2.1.toInt) (hw _ cl)
    · show dw_ok (pr_X11_wet K) 25 0 0 [some (.ref 0), some (.int a1), some (.int a2), some (.int a3), some (.int c1)] [.int (0 : Int32)] (n, SH1, I1, J)
      refine q_if (c := 0) rfl (by decide) (fun y5 => ?_) (fun h => absurd (show (0 : Int) ≠ 0 from h) (by decide))
      have y5 : (0 : Int) = 0 := y5
      refine q_ic rfl ?_
      refine q_iret rfl (hk _ _ ?_)
      unfold aWet
      rw [if_neg (fun q => okS_no hno q.1)]
      exact cm1
  · show dw_ok (pr_X11_wet K) 12 0 0 [some (.ref 0), some (.int a1), some (.int a2), some (.int a3), none] [.int (-1 : Int32)] (n, SH1, I, J)
    refine q_ist rfl rfl ?_
    show dw_ok (pr_X11_wet K) 14 0 0 [some (.ref 0), some (.int a1), some (.int a2), some (.int a3), some (.int (-1 : Int32))] [] (n, SH1, I, J)
    refine q_ild rfl rfl ?_
    refine q_ic rfl ?_
    refine q_icmp (c := 0) rfl (by decide) (fun y6 => ?_) (fun h => absurd (show (-1 : Int) ≠ (-1 : Int) from h) (by omega))
    have y6 : (-1 : Int) = (-1 : Int) := y6
    refine q_ic rfl ?_
    refine q_iret rfl (hk _ _ ?_)
    unfold aWet
    rw [if_neg (fun q => k2 q.2)]
    exact cm1
set_option maxRecDepth 8000 in
theorem v_cspell {n : Nat} {I : Nat → Nat → Int32} {J : Nat → Nat → Int64} {K : dw_K} {R : Nat → Int32} (hR : SREL I 3 R) {a1 a2 a3 : Int32} (hk : ∀ (w : Int32) (I' : Nat → Nat → Int32), w.toInt = aSpell R a1 a2 a3 → K (some (.int w)) (n, SH1, I', J)) : t_X11_spell [.ref 0, .int a1, .int a2, .int a3] (n, SH1, I, J) K := by
  have cm1 : (-1 : Int32).toInt = -1 := rfl
  have k0 : (0 : Int32).toInt = 0 := rfl
  have k1 : (1 : Int32).toInt = 1 := rfl
  refine q_body (Nat.le_of_ble_eq_true rfl) ?_
  refine q_ald rfl rfl ?_
  refine q_getr rfl sk_0 sr_0_1 ?_
  refine q_getr rfl sk_3 sr_3_1 ?_
  refine q_ild rfl rfl ?_
  refine q_ild rfl rfl ?_
  refine q_callV (as := [.int a2, .int a3]) (rest := []) rfl rfl sk_4 rfl (Nat.le_of_ble_eq_true rfl) ?_
  refine v_cellAt2 (R := R) hR.1 ((rg_3 hR).1 0 (by decide)) ((rg_3 hR).1 1 (by decide)) (fun k2 c1 ec1 => ?_) (fun k2 => ?_)
  · show dw_ok (pr_X11_spell K) 12 0 0 [some (.ref 0), some (.int a1), some (.int a2), some (.int a3), none] [.int c1] (n, SH1, I, J)
    refine q_ist rfl rfl ?_
    show dw_ok (pr_X11_spell K) 14 0 0 [some (.ref 0), some (.int a1), some (.int a2), some (.int a3), some (.int c1)] [] (n, SH1, I, J)
    refine q_ild rfl rfl ?_
    refine q_ic rfl ?_
    refine q_icmp (c := 0) rfl (by decide) (fun h => absurd (show (c1).toInt = (-1 : Int) from h) (by have := ec1; omega)) (fun y3 => ?_)
    have y3 : (c1).toInt ≠ (-1 : Int) := y3
    refine q_ald rfl rfl ?_
    refine q_ild rfl rfl ?_
    refine q_callV (as := [.int a1]) (rest := []) rfl rfl sk_0 rfl (Nat.le_of_ble_eq_true rfl) ?_
    refine v_watched hR (fun s hs hxs hS I1 hw hfr => ?_) (fun hno I1 => ?_)
    · show dw_ok (pr_X11_spell K) 25 0 0 [some (.ref 0), some (.int a1), some (.int a2), some (.int a3), some (.int c1)] [.int (1 : Int32)] (n, SH1, I1, J)
      refine q_if (c := 0) rfl (by decide) (fun h => absurd (show (1 : Int) = 0 from h) (by decide)) (fun y4 => ?_)
      have y4 : (1 : Int) ≠ 0 := y4
      refine q_ald rfl rfl ?_
      refine q_getr rfl sk_0 sr_0_8 ?_
      refine q_ald rfl rfl ?_
      refine q_getr rfl sk_0 sr_0_8 ?_
      refine q_getr rfl sk_194 sr_194_4 ?_
      refine q_ild rfl rfl ?_
      refine q_callV (as := [.ref 199, .int c1]) (rest := []) rfl rfl sk_194 rfl (Nat.le_of_ble_eq_true rfl) ?_
      have cl := cN_lt k2
      have cl9 := (gok_N hR.1).2
      refine v_wtell (a := 199) (k := cN R a2 a3) sk_199 sn_199 ec1 (by omega) ?_
      show dw_ok (pr_X11_spell K) 44 0 0 [some (.ref 0), some (.int a1), some (.int a2), some (.int a3), some (.int c1)] [.int (I1 199 (cN R a2 a3))] (n, SH1, I1, J)
      refine q_goto rfl ?_
      obtain ⟨oS, eS⟩ := okS_of hs hxs hS
      refine q_iret rfl (hk _ _ ?_)
      unfold aSpell
      rw [if_pos ⟨oS, k2⟩, eS]
      exact congrArg (fun z : wK => z.2.2.2.2.1.toInt) (hw _ cl)
    · show dw_ok (pr_X11_spell K) 25 0 0 [some (.ref 0), some (.int a1), some (.int a2), some (.int a3), some (.int c1)] [.int (0 : Int32)] (n, SH1, I1, J)
      refine q_if (c := 0) rfl (by decide) (fun y5 => ?_) (fun h => absurd (show (0 : Int) ≠ 0 from h) (by decide))
      have y5 : (0 : Int) = 0 := y5
      refine q_ic rfl ?_
      refine q_iret rfl (hk _ _ ?_)
      unfold aSpell
      rw [if_neg (fun q => okS_no hno q.1)]
      exact cm1
  · show dw_ok (pr_X11_spell K) 12 0 0 [some (.ref 0), some (.int a1), some (.int a2), some (.int a3), none] [.int (-1 : Int32)] (n, SH1, I, J)
    refine q_ist rfl rfl ?_
    show dw_ok (pr_X11_spell K) 14 0 0 [some (.ref 0), some (.int a1), some (.int a2), some (.int a3), some (.int (-1 : Int32))] [] (n, SH1, I, J)
    refine q_ild rfl rfl ?_
    refine q_ic rfl ?_
    refine q_icmp (c := 0) rfl (by decide) (fun y6 => ?_) (fun h => absurd (show (-1 : Int) ≠ (-1 : Int) from h) (by omega))
    have y6 : (-1 : Int) = (-1 : Int) := y6
    refine q_ic rfl ?_
    refine q_iret rfl (hk _ _ ?_)
    unfold aSpell
    rw [if_neg (fun q => k2 q.2)]
    exact cm1
set_option maxRecDepth 8000 in
theorem v_cfrost {n : Nat} {I : Nat → Nat → Int32} {J : Nat → Nat → Int64} {K : dw_K} {R : Nat → Int32} (hR : SREL I 3 R) {a1 a2 a3 : Int32} (hk : ∀ (w : Int32) (I' : Nat → Nat → Int32), w.toInt = aFrost R a1 a2 a3 → K (some (.int w)) (n, SH1, I', J)) : t_X11_frost [.ref 0, .int a1, .int a2, .int a3] (n, SH1, I, J) K := by
  have cm1 : (-1 : Int32).toInt = -1 := rfl
  have k0 : (0 : Int32).toInt = 0 := rfl
  have k1 : (1 : Int32).toInt = 1 := rfl
  refine q_body (Nat.le_of_ble_eq_true rfl) ?_
  refine q_ald rfl rfl ?_
  refine q_getr rfl sk_0 sr_0_1 ?_
  refine q_getr rfl sk_3 sr_3_1 ?_
  refine q_ild rfl rfl ?_
  refine q_ild rfl rfl ?_
  refine q_callV (as := [.int a2, .int a3]) (rest := []) rfl rfl sk_4 rfl (Nat.le_of_ble_eq_true rfl) ?_
  refine v_cellAt2 (R := R) hR.1 ((rg_3 hR).1 0 (by decide)) ((rg_3 hR).1 1 (by decide)) (fun k2 c1 ec1 => ?_) (fun k2 => ?_)
  · show dw_ok (pr_X11_frost K) 12 0 0 [some (.ref 0), some (.int a1), some (.int a2), some (.int a3), none] [.int c1] (n, SH1, I, J)
    refine q_ist rfl rfl ?_
    show dw_ok (pr_X11_frost K) 14 0 0 [some (.ref 0), some (.int a1), some (.int a2), some (.int a3), some (.int c1)] [] (n, SH1, I, J)
    refine q_ild rfl rfl ?_
    refine q_ic rfl ?_
    refine q_icmp (c := 0) rfl (by decide) (fun h => absurd (show (c1).toInt = (-1 : Int) from h) (by have := ec1; omega)) (fun y3 => ?_)
    have y3 : (c1).toInt ≠ (-1 : Int) := y3
    refine q_ald rfl rfl ?_
    refine q_ild rfl rfl ?_
    refine q_callV (as := [.int a1]) (rest := []) rfl rfl sk_0 rfl (Nat.le_of_ble_eq_true rfl) ?_
    refine v_watched hR (fun s hs hxs hS I1 hw hfr => ?_) (fun hno I1 => ?_)
    · show dw_ok (pr_X11_frost K) 25 0 0 [some (.ref 0), some (.int a1), some (.int a2), some (.int a3), some (.int c1)] [.int (1 : Int32)] (n, SH1, I1, J)
      refine q_if (c := 0) rfl (by decide) (fun h => absurd (show (1 : Int) = 0 from h) (by decide)) (fun y4 => ?_)
      have y4 : (1 : Int) ≠ 0 := y4
      refine q_ald rfl rfl ?_
      refine q_getr rfl sk_0 sr_0_8 ?_
      refine q_ald rfl rfl ?_
      refine q_getr rfl sk_0 sr_0_8 ?_
      refine q_getr rfl sk_194 sr_194_5 ?_
      refine q_ild rfl rfl ?_
      refine q_callV (as := [.ref 200, .int c1]) (rest := []) rfl rfl sk_194 rfl (Nat.le_of_ble_eq_true rfl) ?_
      have cl := cN_lt k2
      have cl9 := (gok_N hR.1).2
      refine v_wtell (a := 200) (k := cN R a2 a3) sk_200 sn_200 ec1 (by omega) ?_
      show dw_ok (pr_X11_frost K) 44 0 0 [some (.ref 0), some (.int a1), some (.int a2), some (.int a3), some (.int c1)] [.int (I1 200 (cN R a2 a3))] (n, SH1, I1, J)
      refine q_goto rfl ?_
      obtain ⟨oS, eS⟩ := okS_of hs hxs hS
      refine q_iret rfl (hk _ _ ?_)
      unfold aFrost
      rw [if_pos ⟨oS, k2⟩, eS]
      exact congrArg (fun z : wK => z.2.2.2.2.2.toInt) (hw _ cl)
    · show dw_ok (pr_X11_frost K) 25 0 0 [some (.ref 0), some (.int a1), some (.int a2), some (.int a3), some (.int c1)] [.int (0 : Int32)] (n, SH1, I1, J)
      refine q_if (c := 0) rfl (by decide) (fun y5 => ?_) (fun h => absurd (show (0 : Int) ≠ 0 from h) (by decide))
      have y5 : (0 : Int) = 0 := y5
      refine q_ic rfl ?_
      refine q_iret rfl (hk _ _ ?_)
      unfold aFrost
      rw [if_neg (fun q => okS_no hno q.1)]
      exact cm1
  · show dw_ok (pr_X11_frost K) 12 0 0 [some (.ref 0), some (.int a1), some (.int a2), some (.int a3), none] [.int (-1 : Int32)] (n, SH1, I, J)
    refine q_ist rfl rfl ?_
    show dw_ok (pr_X11_frost K) 14 0 0 [some (.ref 0), some (.int a1), some (.int a2), some (.int a3), some (.int (-1 : Int32))] [] (n, SH1, I, J)
    refine q_ild rfl rfl ?_
    refine q_ic rfl ?_
    refine q_icmp (c := 0) rfl (by decide) (fun y6 => ?_) (fun h => absurd (show (-1 : Int) ≠ (-1 : Int) from h) (by omega))
    have y6 : (-1 : Int) = (-1 : Int) := y6
    refine q_ic rfl ?_
    refine q_iret rfl (hk _ _ ?_)
    unfold aFrost
    rw [if_neg (fun q => k2 q.2)]
    exact cm1
set_option maxRecDepth 8000 in
theorem v_cgone {n : Nat} {I : Nat → Nat → Int32} {J : Nat → Nat → Int64} {K : dw_K} {R : Nat → Int32} (hR : SREL I 3 R) {a1 a2 a3 : Int32} (hk : ∀ (w : Int32) (I' : Nat → Nat → Int32), w.toInt = aGone R a1 a2 a3 → K (some (.int w)) (n, SH1, I', J)) : t_X11_gone [.ref 0, .int a1, .int a2, .int a3] (n, SH1, I, J) K := by
  have cm1 : (-1 : Int32).toInt = -1 := rfl
  have k0 : (0 : Int32).toInt = 0 := rfl
  have k1 : (1 : Int32).toInt = 1 := rfl
  refine q_body (Nat.le_of_ble_eq_true rfl) ?_
  refine q_ald rfl rfl ?_
  refine q_getr rfl sk_0 sr_0_1 ?_
  refine q_getr rfl sk_3 sr_3_1 ?_
  refine q_ild rfl rfl ?_
  refine q_ild rfl rfl ?_
  refine q_callV (as := [.int a2, .int a3]) (rest := []) rfl rfl sk_4 rfl (Nat.le_of_ble_eq_true rfl) ?_
  refine v_cellAt2 (R := R) hR.1 ((rg_3 hR).1 0 (by decide)) ((rg_3 hR).1 1 (by decide)) (fun k2 c1 ec1 => ?_) (fun k2 => ?_)
  · show dw_ok (pr_X11_gone K) 12 0 0 [some (.ref 0), some (.int a1), some (.int a2), some (.int a3), none, none] [.int c1] (n, SH1, I, J)
    refine q_ist rfl rfl ?_
    show dw_ok (pr_X11_gone K) 14 0 0 [some (.ref 0), some (.int a1), some (.int a2), some (.int a3), some (.int c1), none] [] (n, SH1, I, J)
    refine q_ild rfl rfl ?_
    refine q_ic rfl ?_
    refine q_icmp (c := 0) rfl (by decide) (fun h => absurd (show (c1).toInt = (-1 : Int) from h) (by have := ec1; omega)) (fun y3 => ?_)
    have y3 : (c1).toInt ≠ (-1 : Int) := y3
    refine q_ald rfl rfl ?_
    refine q_ild rfl rfl ?_
    refine q_callV (as := [.int a1]) (rest := []) rfl rfl sk_0 rfl (Nat.le_of_ble_eq_true rfl) ?_
    refine v_watched hR (fun s hs hxs hS I1 hw hfr => ?_) (fun hno I1 => ?_)
    · show dw_ok (pr_X11_gone K) 25 0 0 [some (.ref 0), some (.int a1), some (.int a2), some (.int a3), some (.int c1), none] [.int (1 : Int32)] (n, SH1, I1, J)
      refine q_if (c := 1) rfl (by decide) (fun y4 => ?_) (fun h => absurd (show (1 : Int) = 0 from h) (by decide))
      have y4 : (1 : Int) ≠ 0 := y4
      refine q_ald rfl rfl ?_
      refine q_getr rfl sk_0 sr_0_8 ?_
      refine q_ald rfl rfl ?_
      refine q_getr rfl sk_0 sr_0_8 ?_
      refine q_getr rfl sk_194 sr_194_1 ?_
      refine q_ild rfl rfl ?_
      refine q_callV (as := [.ref 196, .int c1]) (rest := []) rfl rfl sk_194 rfl (Nat.le_of_ble_eq_true rfl) ?_
      have cl := cN_lt k2
      have cl9 := (gok_N hR.1).2
      refine v_wtell (a := 196) (k := cN R a2 a3) sk_196 sn_196 ec1 (by omega) ?_
      show dw_ok (pr_X11_gone K) 46 0 0 [some (.ref 0), some (.int a1), some (.int a2), some (.int a3), some (.int c1), none] [.int (I1 196 (cN R a2 a3))] (n, SH1, I1, J)
      obtain ⟨lv, hlv⟩ : ∃ z, z = I1 196 (cN R a2 a3) := ⟨_, rfl⟩
      rw [← hlv]
      show dw_ok (pr_X11_gone K) 46 0 0 [some (.ref 0), some (.int a1), some (.int a2), some (.int a3), some (.int c1), none] [.int lv] (n, SH1, I1, J)
      refine q_ist rfl rfl ?_
      show dw_ok (pr_X11_gone K) 48 0 0 [some (.ref 0), some (.int a1), some (.int a2), some (.int a3), some (.int c1), some (.int lv)] [] (n, SH1, I1, J)
      refine q_ild rfl rfl ?_
      refine q_ic rfl ?_
      refine q_icmp (c := 0) rfl (by decide) (fun y5 => ?_) (fun y5 => ?_)
      · have y5 : (lv).toInt = (-1 : Int) := y5
        refine q_ic rfl ?_
        refine q_goto rfl ?_
        obtain ⟨oS, eS⟩ := okS_of hs hxs hS
        have el : lv.toInt = (wkR R (nS R s) (cN R a2 a3) 144).2.1.toInt := by rw [hlv]; exact congrArg (fun z : wK => z.2.1.toInt) (hw _ cl)
        have wb := ls_b (p := pW (wAt R (nS R s) (cN R a2 a3))) 144
        have el2 : lv.toInt = lsF (pW (wAt R (nS R s) (cN R a2 a3))) 144 := el.trans wk_R.2.1
        refine q_iret rfl (hk _ _ ?_)
        unfold aGone
        rw [if_pos ⟨oS, k2⟩, eS, ← el]
        unfold gnF
        rw [if_pos (by omega)]
        exact cm1
      · have y5 : (lv).toInt ≠ (-1 : Int) := y5
        refine q_ild rfl rfl ?_
        refine q_ic rfl ?_
        refine q_icmp (c := 1) rfl (by decide) (fun y6 => ?_) (fun y6 => ?_)
        · have y6 : (lv).toInt ≠ (143 : Int) := y6
          refine q_ild rfl rfl ?_
          refine q_ic rfl ?_
          refine q_add rfl ?_
          obtain ⟨oS, eS⟩ := okS_of hs hxs hS
          have el : lv.toInt = (wkR R (nS R s) (cN R a2 a3) 144).2.1.toInt := by rw [hlv]; exact congrArg (fun z : wK => z.2.1.toInt) (hw _ cl)
          have wb := ls_b (p := pW (wAt R (nS R s) (cN R a2 a3))) 144
          have el2 : lv.toInt = lsF (pW (wAt R (nS R s) (cN R a2 a3))) 144 := el.trans wk_R.2.1
          refine q_iret rfl (hk _ _ ?_)
          unfold aGone
          rw [if_pos ⟨oS, k2⟩, eS, ← el]
          unfold gnF
          rw [if_neg (by omega), i_add (by omega) (by omega), k1]
        · have y6 : (lv).toInt = (143 : Int) := y6
          refine q_ic rfl ?_
          refine q_goto rfl ?_
          obtain ⟨oS, eS⟩ := okS_of hs hxs hS
          have el : lv.toInt = (wkR R (nS R s) (cN R a2 a3) 144).2.1.toInt := by rw [hlv]; exact congrArg (fun z : wK => z.2.1.toInt) (hw _ cl)
          have wb := ls_b (p := pW (wAt R (nS R s) (cN R a2 a3))) 144
          have el2 : lv.toInt = lsF (pW (wAt R (nS R s) (cN R a2 a3))) 144 := el.trans wk_R.2.1
          refine q_iret rfl (hk _ _ ?_)
          unfold aGone
          rw [if_pos ⟨oS, k2⟩, eS, ← el]
          unfold gnF
          rw [if_pos (by omega)]
          exact cm1
    · show dw_ok (pr_X11_gone K) 25 0 0 [some (.ref 0), some (.int a1), some (.int a2), some (.int a3), some (.int c1), none] [.int (0 : Int32)] (n, SH1, I1, J)
      refine q_if (c := 1) rfl (by decide) (fun h => absurd (show (0 : Int) ≠ 0 from h) (by decide)) (fun y7 => ?_)
      have y7 : (0 : Int) = 0 := y7
      refine q_ic rfl ?_
      refine q_iret rfl (hk _ _ ?_)
      unfold aGone
      rw [if_neg (fun q => okS_no hno q.1)]
      exact cm1
  · show dw_ok (pr_X11_gone K) 12 0 0 [some (.ref 0), some (.int a1), some (.int a2), some (.int a3), none, none] [.int (-1 : Int32)] (n, SH1, I, J)
    refine q_ist rfl rfl ?_
    show dw_ok (pr_X11_gone K) 14 0 0 [some (.ref 0), some (.int a1), some (.int a2), some (.int a3), some (.int (-1 : Int32)), none] [] (n, SH1, I, J)
    refine q_ild rfl rfl ?_
    refine q_ic rfl ?_
    refine q_icmp (c := 0) rfl (by decide) (fun y8 => ?_) (fun h => absurd (show (-1 : Int) ≠ (-1 : Int) from h) (by omega))
    have y8 : (-1 : Int) = (-1 : Int) := y8
    refine q_ic rfl ?_
    refine q_iret rfl (hk _ _ ?_)
    unfold aGone
    rw [if_neg (fun q => k2 q.2)]
    exact cm1
set_option maxRecDepth 8000 in
theorem lsp_loop {n : Nat} {I : Nat → Nat → Int32} {J : Nat → Nat → Int64} {K : dw_K} {m nv : Int32} {N : Nat} (hn : nv.toInt = N) (hN9 : N ≤ 144) (hk : ∀ w : Int32, w.toInt = wcF (I 199) m N → K (some (.int w)) (n, SH1, I, J)) :
    ∀ (f k : Nat) (v c : Int32), k + f = N → c.toInt = k → v.toInt = wcF (I 199) m k → dw_ok (pr_X10_longSpells K) 5 0 0 [some (.ref 194), some (.int m), some (.int nv), some (.int v), some (.int c)] [] (n, SH1, I, J) := by
  have cm1 : (-1 : Int32).toInt = -1 := rfl
  have k0 : (0 : Int32).toInt = 0 := rfl
  have k1 : (1 : Int32).toInt = 1 := rfl
  intro f
  induction f with
  | zero =>
    intro k v c hf hc hv
    have kN : k = N := by omega
    rw [kN] at hv
    refine q_ild rfl rfl ?_
    refine q_ild rfl rfl ?_
    refine q_icmp (c := 3) rfl (by decide) (fun y1 => ?_) (fun h => absurd (show (c).toInt < (nv).toInt from h) (by omega))
    have y1 : (nv).toInt ≤ (c).toInt := y1
    refine q_ild rfl rfl ?_
    exact q_iret rfl (hk v hv)
  | succ f ih =>
    intro k v c hf hc hv
    have hcn : c.toInt.toNat = k := by omega
    have wl := wc_le (W := I 199) (l := m) k
    refine q_ild rfl rfl ?_
    refine q_ild rfl rfl ?_
    refine q_icmp (c := 3) rfl (by decide) (fun h => absurd (show (nv).toInt ≤ (c).toInt from h) (by omega)) (fun y2 => ?_)
    have y2 : (c).toInt < (nv).toInt := y2
    refine q_ild rfl rfl ?_
    refine q_ic rfl ?_
    refine q_icmp (c := 3) rfl (by decide) (fun h => absurd (show (144 : Int) ≤ (c).toInt from h) (by omega)) (fun y3 => ?_)
    have y3 : (c).toInt < (144 : Int) := y3
    refine q_ild rfl rfl ?_
    refine q_ald rfl rfl ?_
    refine q_getr rfl sk_194 sr_194_4 ?_
    refine q_ild rfl rfl ?_
    refine q_xald rfl (Or.inl rfl) sk_199 sn_199 (by omega) (by omega) ?_
    show dw_ok (pr_X10_longSpells K) 27 0 0 [some (.ref 194), some (.int m), some (.int nv), some (.int v), some (.int c)] [.int (I 199 (c).toInt.toNat), .int v] (n, SH1, I, J)
    rw [hcn]
    refine q_ild rfl rfl ?_
    refine q_icmp (c := 2) rfl (by decide) (fun y4 => ?_) (fun y4 => ?_)
    · have y4 : ((I 199 k)).toInt < (m).toInt := y4
      refine q_ic rfl ?_
      refine q_add rfl ?_
      refine q_ist rfl rfl ?_
      show dw_ok (pr_X10_longSpells K) 38 0 0 [some (.ref 194), some (.int m), some (.int nv), some (.int (v + (0 : Int32))), some (.int c)] [] (n, SH1, I, J)
      refine q_inc rfl rfl rfl ?_
      show dw_ok (pr_X10_longSpells K) 41 0 0 [some (.ref 194), some (.int m), some (.int nv), some (.int (v + (0 : Int32))), some (.int (c + 1))] [] (n, SH1, I, J)
      show dw_ok (pr_X10_longSpells K) 41 0 0 [some (.ref 194), some (.int m), some (.int nv), some (.int (v + (0 : Int32))), some (.int (c + 1))] [] (n, SH1, I, J)
      obtain ⟨cx, hcx⟩ : ∃ z, z = (c + 1) := ⟨_, rfl⟩
      rw [← hcx]
      have ecx : cx.toInt = ((k + 1 : Nat) : Int) := by rw [hcx]; exact ix_1 hc (by omega)
      refine q_goto rfl ?_
      refine ih (k + 1) (v + (0 : Int32)) cx (by omega) ecx ?_
      rw [i_add (by rw [hv, k0]; omega) (by rw [hv, k0]; omega), hv, k0]
      show _ = ((wcF (I 199) m k + (if m.toInt ≤ (I 199 k).toInt then 1 else 0) : Nat) : Int)
      rw [if_neg (by omega)]
      omega
    · have y4 : (m).toInt ≤ ((I 199 k)).toInt := y4
      refine q_ic rfl ?_
      refine q_goto rfl ?_
      refine q_add rfl ?_
      refine q_ist rfl rfl ?_
      show dw_ok (pr_X10_longSpells K) 38 0 0 [some (.ref 194), some (.int m), some (.int nv), some (.int (v + (1 : Int32))), some (.int c)] [] (n, SH1, I, J)
      refine q_inc rfl rfl rfl ?_
      show dw_ok (pr_X10_longSpells K) 41 0 0 [some (.ref 194), some (.int m), some (.int nv), some (.int (v + (1 : Int32))), some (.int (c + 1))] [] (n, SH1, I, J)
      show dw_ok (pr_X10_longSpells K) 41 0 0 [some (.ref 194), some (.int m), some (.int nv), some (.int (v + (1 : Int32))), some (.int (c + 1))] [] (n, SH1, I, J)
      obtain ⟨cx, hcx⟩ : ∃ z, z = (c + 1) := ⟨_, rfl⟩
      rw [← hcx]
      have ecx : cx.toInt = ((k + 1 : Nat) : Int) := by rw [hcx]; exact ix_1 hc (by omega)
      refine q_goto rfl ?_
      refine ih (k + 1) (v + (1 : Int32)) cx (by omega) ecx ?_
      rw [i_add (by rw [hv, k1]; omega) (by rw [hv, k1]; omega), hv, k1]
      show _ = ((wcF (I 199) m k + (if m.toInt ≤ (I 199 k).toInt then 1 else 0) : Nat) : Int)
      rw [if_pos (by omega)]
      omega
set_option maxRecDepth 8000 in
theorem v_longSpells {n : Nat} {I : Nat → Nat → Int32} {J : Nat → Nat → Int64} {K : dw_K} {m nv : Int32} {N : Nat} (hn : nv.toInt = N) (hN9 : N ≤ 144) (hk : ∀ w : Int32, w.toInt = wcF (I 199) m N → K (some (.int w)) (n, SH1, I, J)) : t_X10_longSpells [.ref 194, .int m, .int nv] (n, SH1, I, J) K := by
  refine q_body (Nat.le_of_ble_eq_true rfl) ?_
  refine q_ic rfl ?_
  refine q_ist rfl rfl ?_
  refine q_ic rfl ?_
  refine q_ist rfl rfl ?_
  exact lsp_loop hn hN9 hk N 0 0 0 (by omega) rfl rfl
set_option maxRecDepth 8000 in
theorem v_csick {n : Nat} {I : Nat → Nat → Int32} {J : Nat → Nat → Int64} {K : dw_K} {R : Nat → Int32} (hR : SREL I 3 R) {a1 a2 : Int32} (hk : ∀ (w : Int32) (I' : Nat → Nat → Int32), w.toInt = aSick R a1 a2 → K (some (.int w)) (n, SH1, I', J)) : t_X11_sick [.ref 0, .int a1, .int a2] (n, SH1, I, J) K := by
  have cm1 : (-1 : Int32).toInt = -1 := rfl
  have k0 : (0 : Int32).toInt = 0 := rfl
  have k1 : (1 : Int32).toInt = 1 := rfl
  refine q_body (Nat.le_of_ble_eq_true rfl) ?_
  refine q_ild rfl rfl ?_
  refine q_ic rfl ?_
  refine q_icmp (c := 2) rfl (by decide) (fun y1 => ?_) (fun y1 => ?_)
  · have y1 : (a2).toInt < (1 : Int) := y1
    refine q_ic rfl ?_
    refine q_iret rfl (hk _ _ ?_)
    unfold aSick
    rw [if_neg (fun q => by omega)]
    exact cm1
  · have y1 : (1 : Int) ≤ (a2).toInt := y1
    refine q_ild rfl rfl ?_
    refine q_ic rfl ?_
    refine q_icmp (c := 4) rfl (by decide) (fun y2 => ?_) (fun y2 => ?_)
    · have y2 : (144 : Int) < (a2).toInt := y2
      refine q_ic rfl ?_
      refine q_iret rfl (hk _ _ ?_)
      unfold aSick
      rw [if_neg (fun q => by omega)]
      exact cm1
    · have y2 : (a2).toInt ≤ (144 : Int) := y2
      refine q_ald rfl rfl ?_
      refine q_ild rfl rfl ?_
      refine q_callV (as := [.int a1]) (rest := []) rfl rfl sk_0 rfl (Nat.le_of_ble_eq_true rfl) ?_
      refine v_watched hR (fun s hs hxs hS I1 hw hfr => ?_) (fun hno I1 => ?_)
      · show dw_ok (pr_X11_sick K) 17 0 0 [some (.ref 0), some (.int a1), some (.int a2)] [.int (1 : Int32)] (n, SH1, I1, J)
        refine q_if (c := 1) rfl (by decide) (fun y3 => ?_) (fun h => absurd (show (1 : Int) = 0 from h) (by decide))
        have y3 : (1 : Int) ≠ 0 := y3
        refine q_ald rfl rfl ?_
        refine q_getr rfl sk_0 sr_0_8 ?_
        refine q_ild rfl rfl ?_
        refine q_ald rfl rfl ?_
        refine q_getr rfl sk_0 sr_0_1 ?_
        refine q_getr rfl sk_3 sr_3_1 ?_
        refine q_callV (as := []) (rest := [.int a2, .ref 194]) rfl rfl sk_4 rfl (Nat.le_of_ble_eq_true rfl) ?_
        refine v_gsize ?_
        show dw_ok (pr_X11_sick K) 37 0 0 [some (.ref 0), some (.int a1), some (.int a2)] [.int (I1 4 0 * I1 4 1), .int a2, .ref 194] (n, SH1, I1, J)
        rw [show I1 4 0 = R 0 by rw [hfr 4 (by decide)]; exact (rg_3 hR).1 0 (by decide), show I1 4 1 = R 1 by rw [hfr 4 (by decide)]; exact (rg_3 hR).1 1 (by decide)]
        obtain ⟨nv, hnv⟩ : ∃ z, z = R 0 * R 1 := ⟨_, rfl⟩
        rw [← hnv]
        have env : nv.toInt = Nn R := by rw [hnv]; exact (gok_N hR.1).1
        show dw_ok (pr_X11_sick K) 37 0 0 [some (.ref 0), some (.int a1), some (.int a2)] [.int nv, .int a2, .ref 194] (n, SH1, I1, J)
        refine q_callV (as := [.int a2, .int nv]) (rest := []) rfl rfl sk_194 rfl (Nat.le_of_ble_eq_true rfl) ?_
        refine v_longSpells (N := Nn R) env (gok_N hR.1).2 (fun w hw2 => ?_)
        show dw_ok (pr_X11_sick K) 40 0 0 [some (.ref 0), some (.int a1), some (.int a2)] [.int w] (n, SH1, I1, J)
        obtain ⟨oS, eS⟩ := okS_of hs hxs hS
        refine q_iret rfl (hk _ _ ?_)
        unfold aSick
        rw [if_pos ⟨oS, by omega, by omega⟩, eS, hw2]
        exact congrArg Nat.cast (wc_eq (Nn R) (fun c hc => congrArg (fun z : wK => z.2.2.2.2.1) (hw c hc)))
      · show dw_ok (pr_X11_sick K) 17 0 0 [some (.ref 0), some (.int a1), some (.int a2)] [.int (0 : Int32)] (n, SH1, I1, J)
        refine q_if (c := 1) rfl (by decide) (fun h => absurd (show (0 : Int) ≠ 0 from h) (by decide)) (fun y4 => ?_)
        have y4 : (0 : Int) = 0 := y4
        refine q_ic rfl ?_
        refine q_iret rfl (hk _ _ ?_)
        unfold aSick
        rw [if_neg (fun q => okS_no hno q.1)]
        exact cm1
set_option maxRecDepth 8000 in
set_option maxHeartbeats 4000000 in
theorem v_asks {n : Nat} {I : Nat → Nat → Int32} {J : Nat → Nat → Int64} {K : dw_K} {R : Nat → Int32} (hR : I 406 = R) (hG : GOK R) {a1 a2 a3 : Int32} (hN : okS R a1 → NOK (nX R a1)) (h1 : okS R a1 → okC R a2 a3 → ∀ I' : Nat → Nat → Int32, I' 406 = R → (∀ t, t < 144 → I' 422 t = wAt R (nX R a1) (cN R a2 a3) t) → K (some (.int 1)) (n, SH1, I', J)) (h0 : ¬ (okS R a1 ∧ okC R a2 a3) → ∀ I' : Nat → Nat → Int32, K (some (.int 0)) (n, SH1, I', J)) : t_X12_asks [.ref 404, .int a1, .int a2, .int a3] (n, SH1, I, J) K := by
  have cm1 : (-1 : Int32).toInt = -1 := rfl
  have k0 : (0 : Int32).toInt = 0 := rfl
  have k1 : (1 : Int32).toInt = 1 := rfl
  have k2 : (2 : Int32).toInt = 2 := rfl
  refine q_body (Nat.le_of_ble_eq_true rfl) ?_
  refine q_ald rfl rfl ?_
  refine q_ic rfl ?_
  refine q_puti rfl sk_404 ?_
  show dw_ok (pr_X12_asks K) 5 0 0 [some (.ref 404), some (.int a1), some (.int a2), some (.int a3)] [] (n, SH1, (dw_up I 404 0 (0 : Int32)), J)
  refine q_ald rfl rfl ?_
  refine q_ild rfl rfl ?_
  refine q_callV (as := [.int a1]) (rest := []) rfl rfl sk_404 rfl (Nat.le_of_ble_eq_true rfl) ?_
  obtain ⟨I1, hI1⟩ : ∃ X, X = (dw_up I 404 0 (0 : Int32)) := ⟨_, rfl⟩
  rw [← hI1]
  have eI1 : I1 406 = R := by rw [hI1]; exact ((up_row (by decide)).trans (hR))
  refine v_isNight (fun w_ oS => ?_)
  rcases oS with ⟨rfl, oS⟩ | ⟨rfl, oS⟩
  · show dw_ok (pr_X12_asks K) 10 0 0 [some (.ref 404), some (.int a1), some (.int a2), some (.int a3)] [.int (1 : Int32)] (n, SH1, I1, J)
    refine q_if (c := 0) rfl (by decide) (fun h => absurd (show (1 : Int) = 0 from h) (by decide)) (fun y2 => ?_)
    have y2 : (1 : Int) ≠ 0 := y2
    refine q_ald rfl rfl ?_
    refine q_ild rfl rfl ?_
    refine q_ild rfl rfl ?_
    refine q_callV (as := [.int a2, .int a3]) (rest := []) rfl rfl sk_404 rfl (Nat.le_of_ble_eq_true rfl) ?_
    refine v_misCell (C := Cn R) (R := Rn R) (by rw [eI1]; exact hG.1.1) (by rw [eI1]; exact hG.1.2.1) (fun w_ oC => ?_)
    rcases oC with ⟨rfl, oC⟩ | ⟨rfl, oC⟩
    · show dw_ok (pr_X12_asks K) 19 0 0 [some (.ref 404), some (.int a1), some (.int a2), some (.int a3)] [.int (1 : Int32)] (n, SH1, I1, J)
      refine q_if (c := 1) rfl (by decide) (fun y3 => ?_) (fun h => absurd (show (1 : Int) = 0 from h) (by decide))
      have y3 : (1 : Int) ≠ 0 := y3
      refine q_ald rfl rfl ?_
      refine q_ild rfl rfl ?_
      refine q_ald rfl rfl ?_
      refine q_ild rfl rfl ?_
      refine q_ild rfl rfl ?_
      refine q_callV (as := [.int a2, .int a3]) (rest := [.int a1, .ref 404]) rfl rfl sk_404 rfl (Nat.le_of_ble_eq_true rfl) ?_
      refine v_numberOf ?_
      show dw_ok (pr_X12_asks K) 32 0 0 [some (.ref 404), some (.int a1), some (.int a2), some (.int a3)] [.int (I1 406 0 * a3 + a2), .int a1, .ref 404] (n, SH1, I1, J)
      rw [eI1]
      have en : (R 0 * a3 + a2).toInt.toNat = cN R a2 a3 := by rw [(cN_i hG oC).2]; rfl
      have el := cN_lt oC
      have el9 := (gok_N hG).2
      have ei : (R 0 * a3 + a2).toInt = (cN R a2 a3 : Nat) := (cN_i hG oC).2
      show dw_ok (pr_X12_asks K) 32 0 0 [some (.ref 404), some (.int a1), some (.int a2), some (.int a3)] [.int (R 0 * a3 + a2), .int a1, .ref 404] (n, SH1, I1, J)
      refine q_ic rfl ?_
      refine q_callV (as := [.int a1, .int (R 0 * a3 + a2), .int (0 : Int32)]) (rest := []) rfl rfl sk_404 rfl (Nat.le_of_ble_eq_true rfl) ?_
      rw [eI1] at oS
      refine v_timesOf (st := 0) (cc := cN R a2 a3) eI1 hG oS (hN oS) rfl ei el (fun I2 e2 _ hT2 => ?_)
      show dw_ok (pr_X12_asks K) 36 0 0 [some (.ref 404), some (.int a1), some (.int a2), some (.int a3)] [] (n, SH1, I2, J)
      refine q_ic rfl ?_
      exact q_zret rfl (Or.inr rfl) (h1 oS oC I2 e2 hT2)
    · show dw_ok (pr_X12_asks K) 19 0 0 [some (.ref 404), some (.int a1), some (.int a2), some (.int a3)] [.int (0 : Int32)] (n, SH1, I1, J)
      refine q_if (c := 1) rfl (by decide) (fun h => absurd (show (0 : Int) ≠ 0 from h) (by decide)) (fun y4 => ?_)
      have y4 : (0 : Int) = 0 := y4
      refine q_ic rfl ?_
      exact q_zret rfl (Or.inl rfl) (h0 (fun q => oC q.2) _)
  · show dw_ok (pr_X12_asks K) 10 0 0 [some (.ref 404), some (.int a1), some (.int a2), some (.int a3)] [.int (0 : Int32)] (n, SH1, I1, J)
    refine q_if (c := 0) rfl (by decide) (fun y5 => ?_) (fun h => absurd (show (0 : Int) ≠ 0 from h) (by decide))
    have y5 : (0 : Int) = 0 := y5
    refine q_ic rfl ?_
    exact q_zret rfl (Or.inl rfl) (h0 (fun q => by rw [eI1] at oS; exact oS q.1) _)
set_option maxRecDepth 8000 in
theorem mbg_loop {n : Nat} {I : Nat → Nat → Int32} {J : Nat → Nat → Int64} {K : dw_K} {a1 a2 a3 : Int32} {wa wm : Nat → Int32} (hT : ∀ t, t < 144 → I 422 t = wa t) (hk : ∀ w : Int32, w.toInt = fsF (pW wa) 0 144 → K (some (.int w)) (n, SH1, I, J)) :
    ∀ (f k : Nat) (t : Int32), k + f = 144 → t.toInt = k → fsF (pW wa) 0 144 = fsF (pW wa) k f → dw_ok (pr_X12_begins K) 15 0 0 [some (.ref 404), some (.int a1), some (.int a2), some (.int a3), some (.int t)] [] (n, SH1, I, J) := by
  have cm1 : (-1 : Int32).toInt = -1 := rfl
  have k0 : (0 : Int32).toInt = 0 := rfl
  have k1 : (1 : Int32).toInt = 1 := rfl
  intro f
  induction f with
  | zero =>
    intro k t hf ht hp
    refine q_ild rfl rfl ?_
    refine q_ic rfl ?_
    refine q_icmp (c := 3) rfl (by decide) (fun y1 => ?_) (fun h => absurd (show (t).toInt < (144 : Int) from h) (by omega))
    have y1 : (144 : Int) ≤ (t).toInt := y1
    refine q_ic rfl ?_
    exact q_iret rfl (hk _ (cm1.trans hp.symm))
  | succ f ih =>
    intro k t hf ht hp
    have htn : t.toInt.toNat = k := by omega
    have ek : (I 422 k).toInt = (wa k).toInt := congrArg Int32.toInt (hT k (by omega))
    refine q_ild rfl rfl ?_
    refine q_ic rfl ?_
    refine q_icmp (c := 3) rfl (by decide) (fun h => absurd (show (144 : Int) ≤ (t).toInt from h) (by omega)) (fun y2 => ?_)
    have y2 : (t).toInt < (144 : Int) := y2
    refine q_ald rfl rfl ?_
    refine q_getr rfl sk_404 sr_404_42 ?_
    refine q_ild rfl rfl ?_
    refine q_xald rfl (Or.inl rfl) sk_422 sn_422 (by omega) (by omega) ?_
    show dw_ok (pr_X12_begins K) 30 0 0 [some (.ref 404), some (.int a1), some (.int a2), some (.int a3), some (.int t)] [.int (I 422 (t).toInt.toNat)] (n, SH1, I, J)
    rw [htn]
    refine q_if (c := 5) rfl (by decide) (fun y3 => ?_) (fun y3 => ?_)
    · have y3 : ((I 422 k)).toInt ≤ 0 := y3
      refine q_inc rfl rfl rfl ?_
      show dw_ok (pr_X12_begins K) 39 0 0 [some (.ref 404), some (.int a1), some (.int a2), some (.int a3), some (.int (t + 1))] [] (n, SH1, I, J)
      show dw_ok (pr_X12_begins K) 39 0 0 [some (.ref 404), some (.int a1), some (.int a2), some (.int a3), some (.int (t + 1))] [] (n, SH1, I, J)
      obtain ⟨tx, htx⟩ : ∃ z, z = (t + 1) := ⟨_, rfl⟩
      rw [← htx]
      have etx : tx.toInt = ((k + 1 : Nat) : Int) := by rw [htx]; exact ix_1 ht (by omega)
      refine q_goto rfl ?_
      exact ih (k + 1) tx (by omega) etx (by rw [hp, fs_n (pw_n (by omega))])
    · have y3 : 0 < ((I 422 k)).toInt := y3
      refine q_ild rfl rfl ?_
      exact q_iret rfl (hk _ (by rw [hp, fs_y (pw_y (by omega)), ht]))
set_option maxRecDepth 8000 in
set_option maxHeartbeats 4000000 in
theorem v_mbegins {n : Nat} {I : Nat → Nat → Int32} {J : Nat → Nat → Int64} {K : dw_K} {R : Nat → Int32} (hR : I 406 = R) (hG : GOK R) {a1 a2 a3 : Int32} (hN : okS R a1 → NOK (nX R a1)) (hk : ∀ (w : Int32) (I' : Nat → Nat → Int32), w.toInt = aBegins R a1 a2 a3 → K (some (.int w)) (n, SH1, I', J)) : t_X12_begins [.ref 404, .int a1, .int a2, .int a3] (n, SH1, I, J) K := by
  have cm1 : (-1 : Int32).toInt = -1 := rfl
  have k0 : (0 : Int32).toInt = 0 := rfl
  have k1 : (1 : Int32).toInt = 1 := rfl
  have k2 : (2 : Int32).toInt = 2 := rfl
  refine q_body (Nat.le_of_ble_eq_true rfl) ?_
  refine q_ald rfl rfl ?_
  refine q_ild rfl rfl ?_
  refine q_ild rfl rfl ?_
  refine q_ild rfl rfl ?_
  refine q_callV (as := [.int a1, .int a2, .int a3]) (rest := []) rfl rfl sk_404 rfl (Nat.le_of_ble_eq_true rfl) ?_
  refine v_asks hR hG hN (fun oS oC I1 e1 hT => ?_) (fun hno I1 => ?_)
  · show dw_ok (pr_X12_begins K) 7 0 0 [some (.ref 404), some (.int a1), some (.int a2), some (.int a3), none] [.int (1 : Int32)] (n, SH1, I1, J)
    refine q_if (c := 1) rfl (by decide) (fun y1 => ?_) (fun h => absurd (show (1 : Int) = 0 from h) (by decide))
    have y1 : (1 : Int) ≠ 0 := y1
    refine q_ic rfl ?_
    refine q_ist rfl rfl ?_
    show dw_ok (pr_X12_begins K) 15 0 0 [some (.ref 404), some (.int a1), some (.int a2), some (.int a3), some (.int (0 : Int32))] [] (n, SH1, I1, J)
    exact mbg_loop (wm := fun _ => 0) hT (fun w hw => hk w I1 (by unfold aBegins; rw [if_pos ⟨oS, oC⟩]; exact hw.trans wk_R.1.symm)) 144 0 0 rfl rfl rfl
  · show dw_ok (pr_X12_begins K) 7 0 0 [some (.ref 404), some (.int a1), some (.int a2), some (.int a3), none] [.int (0 : Int32)] (n, SH1, I1, J)
    refine q_if (c := 1) rfl (by decide) (fun h => absurd (show (0 : Int) ≠ 0 from h) (by decide)) (fun y2 => ?_)
    have y2 : (0 : Int) = 0 := y2
    refine q_ic rfl ?_
    refine q_iret rfl (hk _ _ ?_)
    unfold aBegins
    rw [if_neg hno]
    exact cm1
set_option maxRecDepth 8000 in
theorem mgn_loop {n : Nat} {I : Nat → Nat → Int32} {J : Nat → Nat → Int64} {K : dw_K} {a1 a2 a3 : Int32} {wa wm : Nat → Int32} (hT : ∀ t, t < 144 → I 422 t = wa t) (hk : ∀ w : Int32, w.toInt = gnF (lsF (pW wa) 144) → K (some (.int w)) (n, SH1, I, J)) :
    ∀ (k : Nat) (t : Int32), k ≤ 144 → t.toInt = (k : Int) - 1 → lsF (pW wa) 144 = lsF (pW wa) k → dw_ok (pr_X12_gone K) 17 0 0 [some (.ref 404), some (.int a1), some (.int a2), some (.int a3), some (.int t)] [] (n, SH1, I, J) := by
  have cm1 : (-1 : Int32).toInt = -1 := rfl
  have k0 : (0 : Int32).toInt = 0 := rfl
  have k1 : (1 : Int32).toInt = 1 := rfl
  intro k
  induction k with
  | zero =>
    intro t hk9 ht hp
    have ht : t.toInt = -1 := ht
    refine q_ild rfl rfl ?_
    refine q_if (c := 2) rfl (by decide) (fun y1 => ?_) (fun h => absurd (show 0 ≤ (t).toInt from h) (by omega))
    have y1 : (t).toInt < 0 := y1
    refine q_ic rfl ?_
    exact q_iret rfl (hk _ (by rw [hp]; rfl))
  | succ k ih =>
    intro t hk9 ht hp
    have ht : t.toInt = (k : Int) := by omega
    have htn : t.toInt.toNat = k := by omega
    have ek : (I 422 k).toInt = (wa k).toInt := congrArg Int32.toInt (hT k (by omega))
    have es : lsF (pW wa) (k + 1) = if pW wa k = true then ((k : Nat) : Int) else lsF (pW wa) k := rfl
    rw [es] at hp
    refine q_ild rfl rfl ?_
    refine q_if (c := 2) rfl (by decide) (fun h => absurd (show (t).toInt < 0 from h) (by omega)) (fun y2 => ?_)
    have y2 : 0 ≤ (t).toInt := y2
    refine q_ald rfl rfl ?_
    refine q_getr rfl sk_404 sr_404_42 ?_
    refine q_ild rfl rfl ?_
    refine q_xald rfl (Or.inl rfl) sk_422 sn_422 (by omega) (by omega) ?_
    show dw_ok (pr_X12_gone K) 29 0 0 [some (.ref 404), some (.int a1), some (.int a2), some (.int a3), some (.int t)] [.int (I 422 (t).toInt.toNat)] (n, SH1, I, J)
    rw [htn]
    refine q_if (c := 5) rfl (by decide) (fun y3 => ?_) (fun y3 => ?_)
    · have y3 : ((I 422 k)).toInt ≤ 0 := y3
      refine q_inc rfl rfl rfl ?_
      show dw_ok (pr_X12_gone K) 52 0 0 [some (.ref 404), some (.int a1), some (.int a2), some (.int a3), some (.int (t + (-1)))] [] (n, SH1, I, J)
      show dw_ok (pr_X12_gone K) 52 0 0 [some (.ref 404), some (.int a1), some (.int a2), some (.int a3), some (.int (t + (-1)))] [] (n, SH1, I, J)
      obtain ⟨tx, htx⟩ : ∃ z, z = (t + (-1)) := ⟨_, rfl⟩
      rw [← htx]
      have etx : tx.toInt = (k : Int) - 1 := by rw [htx]; exact (by rw [i_add (by omega) (by omega), cm1, ht]; omega)
      refine q_goto rfl ?_
      exact ih tx (by omega) etx (by rw [hp, if_neg (by rw [pw_n (by omega)]; decide)])
    · have y3 : 0 < ((I 422 k)).toInt := y3
      refine q_ild rfl rfl ?_
      refine q_ic rfl ?_
      refine q_icmp (c := 1) rfl (by decide) (fun y4 => ?_) (fun y4 => ?_)
      · have y4 : (t).toInt ≠ (143 : Int) := y4
        refine q_ild rfl rfl ?_
        refine q_ic rfl ?_
        refine q_add rfl ?_
        rw [if_pos (pw_y (by omega))] at hp
        exact q_iret rfl (hk _ (by rw [hp]; unfold gnF; rw [if_neg (by omega), i_add (by omega) (by omega), k1, ht]))
      · have y4 : (t).toInt = (143 : Int) := y4
        refine q_ic rfl ?_
        refine q_goto rfl ?_
        rw [if_pos (pw_y (by omega))] at hp
        exact q_iret rfl (hk _ (by rw [hp]; unfold gnF; rw [if_pos (by omega)]; exact cm1))
set_option maxRecDepth 8000 in
set_option maxHeartbeats 4000000 in
theorem v_mgone {n : Nat} {I : Nat → Nat → Int32} {J : Nat → Nat → Int64} {K : dw_K} {R : Nat → Int32} (hR : I 406 = R) (hG : GOK R) {a1 a2 a3 : Int32} (hN : okS R a1 → NOK (nX R a1)) (hk : ∀ (w : Int32) (I' : Nat → Nat → Int32), w.toInt = aGone R a1 a2 a3 → K (some (.int w)) (n, SH1, I', J)) : t_X12_gone [.ref 404, .int a1, .int a2, .int a3] (n, SH1, I, J) K := by
  have cm1 : (-1 : Int32).toInt = -1 := rfl
  have k0 : (0 : Int32).toInt = 0 := rfl
  have k1 : (1 : Int32).toInt = 1 := rfl
  have k2 : (2 : Int32).toInt = 2 := rfl
  refine q_body (Nat.le_of_ble_eq_true rfl) ?_
  refine q_ald rfl rfl ?_
  refine q_ild rfl rfl ?_
  refine q_ild rfl rfl ?_
  refine q_ild rfl rfl ?_
  refine q_callV (as := [.int a1, .int a2, .int a3]) (rest := []) rfl rfl sk_404 rfl (Nat.le_of_ble_eq_true rfl) ?_
  refine v_asks hR hG hN (fun oS oC I1 e1 hT => ?_) (fun hno I1 => ?_)
  · show dw_ok (pr_X12_gone K) 7 0 0 [some (.ref 404), some (.int a1), some (.int a2), some (.int a3), none] [.int (1 : Int32)] (n, SH1, I1, J)
    refine q_if (c := 1) rfl (by decide) (fun y1 => ?_) (fun h => absurd (show (1 : Int) = 0 from h) (by decide))
    have y1 : (1 : Int) ≠ 0 := y1
    refine q_ic rfl ?_
    refine q_ist rfl rfl ?_
    show dw_ok (pr_X12_gone K) 17 0 0 [some (.ref 404), some (.int a1), some (.int a2), some (.int a3), some (.int (143 : Int32))] [] (n, SH1, I1, J)
    exact mgn_loop (wm := fun _ => 0) hT (fun w hw => hk w I1 (by unfold aGone; rw [if_pos ⟨oS, oC⟩]; exact hw.trans (congrArg gnF wk_R.2.1.symm))) 144 143 (Nat.le_refl 144) rfl rfl
  · show dw_ok (pr_X12_gone K) 7 0 0 [some (.ref 404), some (.int a1), some (.int a2), some (.int a3), none] [.int (0 : Int32)] (n, SH1, I1, J)
    refine q_if (c := 1) rfl (by decide) (fun h => absurd (show (0 : Int) ≠ 0 from h) (by decide)) (fun y2 => ?_)
    have y2 : (0 : Int) = 0 := y2
    refine q_ic rfl ?_
    refine q_iret rfl (hk _ _ ?_)
    unfold aGone
    rw [if_neg hno]
    exact cm1
set_option maxRecDepth 8000 in
theorem mwt_loop {n : Nat} {I : Nat → Nat → Int32} {J : Nat → Nat → Int64} {K : dw_K} {a1 a2 a3 : Int32} {wa wm : Nat → Int32} (hT : ∀ t, t < 144 → I 422 t = wa t) (hk : K (some (.int (wlkF wa wm 144).2.2.1)) (n, SH1, I, J)) :
    ∀ (f k : Nat) (v t : Int32), k + f = 144 → t.toInt = k → v = (wlkF wa wm k).2.2.1 → dw_ok (pr_X12_wet K) 18 0 0 [some (.ref 404), some (.int a1), some (.int a2), some (.int a3), some (.int v), some (.int t)] [] (n, SH1, I, J) := by
  have cm1 : (-1 : Int32).toInt = -1 := rfl
  have k0 : (0 : Int32).toInt = 0 := rfl
  have k1 : (1 : Int32).toInt = 1 := rfl
  intro f
  induction f with
  | zero =>
    intro k v t hf ht hv
    obtain rfl : k = 144 := by omega
    refine q_ild rfl rfl ?_
    refine q_ic rfl ?_
    refine q_icmp (c := 3) rfl (by decide) (fun y1 => ?_) (fun h => absurd (show (t).toInt < (144 : Int) from h) (by omega))
    have y1 : (144 : Int) ≤ (t).toInt := y1
    refine q_ild rfl rfl ?_
    rw [hv]
    exact q_iret rfl hk
  | succ f ih =>
    intro k v t hf ht hv
    have htn : t.toInt.toNat = k := by omega
    have ek : (I 422 k).toInt = (wa k).toInt := congrArg Int32.toInt (hT k (by omega))
    refine q_ild rfl rfl ?_
    refine q_ic rfl ?_
    refine q_icmp (c := 3) rfl (by decide) (fun h => absurd (show (144 : Int) ≤ (t).toInt from h) (by omega)) (fun y2 => ?_)
    have y2 : (t).toInt < (144 : Int) := y2
    refine q_ild rfl rfl ?_
    refine q_ald rfl rfl ?_
    refine q_getr rfl sk_404 sr_404_42 ?_
    refine q_ild rfl rfl ?_
    refine q_xald rfl (Or.inl rfl) sk_422 sn_422 (by omega) (by omega) ?_
    show dw_ok (pr_X12_wet K) 35 0 0 [some (.ref 404), some (.int a1), some (.int a2), some (.int a3), some (.int v), some (.int t)] [.int (I 422 (t).toInt.toNat), .int v] (n, SH1, I, J)
    rw [htn]
    refine q_if (c := 5) rfl (by decide) (fun y3 => ?_) (fun y3 => ?_)
    · have y3 : ((I 422 k)).toInt ≤ 0 := y3
      refine q_ic rfl ?_
      refine q_add rfl ?_
      refine q_ist rfl rfl ?_
      show dw_ok (pr_X12_wet K) 46 0 0 [some (.ref 404), some (.int a1), some (.int a2), some (.int a3), some (.int (v + (0 : Int32))), some (.int t)] [] (n, SH1, I, J)
      refine q_inc rfl rfl rfl ?_
      show dw_ok (pr_X12_wet K) 49 0 0 [some (.ref 404), some (.int a1), some (.int a2), some (.int a3), some (.int (v + (0 : Int32))), some (.int (t + 1))] [] (n, SH1, I, J)
      show dw_ok (pr_X12_wet K) 49 0 0 [some (.ref 404), some (.int a1), some (.int a2), some (.int a3), some (.int (v + (0 : Int32))), some (.int (t + 1))] [] (n, SH1, I, J)
      obtain ⟨tx, htx⟩ : ∃ z, z = (t + 1) := ⟨_, rfl⟩
      rw [← htx]
      have etx : tx.toInt = ((k + 1 : Nat) : Int) := by rw [htx]; exact ix_1 ht (by omega)
      refine q_goto rfl ?_
      refine ih (k + 1) (v + (0 : Int32)) tx (by omega) etx ?_
      rw [(wlkF_n (wm := wm) (show ¬ 0 < (wa k).toInt by omega)).1, hv, Int32.add_zero]
    · have y3 : 0 < ((I 422 k)).toInt := y3
      refine q_ic rfl ?_
      refine q_goto rfl ?_
      refine q_add rfl ?_
      refine q_ist rfl rfl ?_
      show dw_ok (pr_X12_wet K) 46 0 0 [some (.ref 404), some (.int a1), some (.int a2), some (.int a3), some (.int (v + (1 : Int32))), some (.int t)] [] (n, SH1, I, J)
      refine q_inc rfl rfl rfl ?_
      show dw_ok (pr_X12_wet K) 49 0 0 [some (.ref 404), some (.int a1), some (.int a2), some (.int a3), some (.int (v + (1 : Int32))), some (.int (t + 1))] [] (n, SH1, I, J)
      show dw_ok (pr_X12_wet K) 49 0 0 [some (.ref 404), some (.int a1), some (.int a2), some (.int a3), some (.int (v + (1 : Int32))), some (.int (t + 1))] [] (n, SH1, I, J)
      obtain ⟨tx, htx⟩ : ∃ z, z = (t + 1) := ⟨_, rfl⟩
      rw [← htx]
      have etx : tx.toInt = ((k + 1 : Nat) : Int) := by rw [htx]; exact ix_1 ht (by omega)
      refine q_goto rfl ?_
      refine ih (k + 1) (v + (1 : Int32)) tx (by omega) etx ?_
      rw [(wlkF_y (wm := wm) (show 0 < (wa k).toInt by omega)).1, hv]
set_option maxRecDepth 8000 in
set_option maxHeartbeats 4000000 in
theorem v_mwet {n : Nat} {I : Nat → Nat → Int32} {J : Nat → Nat → Int64} {K : dw_K} {R : Nat → Int32} (hR : I 406 = R) (hG : GOK R) {a1 a2 a3 : Int32} (hN : okS R a1 → NOK (nX R a1)) (hk : ∀ (w : Int32) (I' : Nat → Nat → Int32), w.toInt = aWet R a1 a2 a3 → K (some (.int w)) (n, SH1, I', J)) : t_X12_wet [.ref 404, .int a1, .int a2, .int a3] (n, SH1, I, J) K := by
  have cm1 : (-1 : Int32).toInt = -1 := rfl
  have k0 : (0 : Int32).toInt = 0 := rfl
  have k1 : (1 : Int32).toInt = 1 := rfl
  have k2 : (2 : Int32).toInt = 2 := rfl
  refine q_body (Nat.le_of_ble_eq_true rfl) ?_
  refine q_ald rfl rfl ?_
  refine q_ild rfl rfl ?_
  refine q_ild rfl rfl ?_
  refine q_ild rfl rfl ?_
  refine q_callV (as := [.int a1, .int a2, .int a3]) (rest := []) rfl rfl sk_404 rfl (Nat.le_of_ble_eq_true rfl) ?_
  refine v_asks hR hG hN (fun oS oC I1 e1 hT => ?_) (fun hno I1 => ?_)
  · show dw_ok (pr_X12_wet K) 7 0 0 [some (.ref 404), some (.int a1), some (.int a2), some (.int a3), none, none] [.int (1 : Int32)] (n, SH1, I1, J)
    refine q_if (c := 1) rfl (by decide) (fun y1 => ?_) (fun h => absurd (show (1 : Int) = 0 from h) (by decide))
    have y1 : (1 : Int) ≠ 0 := y1
    refine q_ic rfl ?_
    refine q_ist rfl rfl ?_
    show dw_ok (pr_X12_wet K) 15 0 0 [some (.ref 404), some (.int a1), some (.int a2), some (.int a3), some (.int (0 : Int32)), none] [] (n, SH1, I1, J)
    refine q_ic rfl ?_
    refine q_ist rfl rfl ?_
    show dw_ok (pr_X12_wet K) 18 0 0 [some (.ref 404), some (.int a1), some (.int a2), some (.int a3), some (.int (0 : Int32)), some (.int (0 : Int32))] [] (n, SH1, I1, J)
    exact mwt_loop (wm := wMt R (nX R a1) (cN R a2 a3)) hT (hk _ I1 (by unfold aWet wkR; rw [if_pos ⟨oS, oC⟩])) 144 0 0 0 rfl rfl rfl
  · show dw_ok (pr_X12_wet K) 7 0 0 [some (.ref 404), some (.int a1), some (.int a2), some (.int a3), none, none] [.int (0 : Int32)] (n, SH1, I1, J)
    refine q_if (c := 1) rfl (by decide) (fun h => absurd (show (0 : Int) ≠ 0 from h) (by decide)) (fun y2 => ?_)
    have y2 : (0 : Int) = 0 := y2
    refine q_ic rfl ?_
    refine q_iret rfl (hk _ _ ?_)
    unfold aWet
    rw [if_neg hno]
    exact cm1
set_option maxRecDepth 8000 in
theorem msl_loop {n : Nat} {I : Nat → Nat → Int32} {J : Nat → Nat → Int64} {K : dw_K} {a1 a2 a3 : Int32} {wa wm : Nat → Int32} (hT : ∀ t, t < 144 → I 422 t = wa t) (hk : K (some (.int (wlkF wa wm 144).2.2.2.2.1)) (n, SH1, I, J)) :
    ∀ (f k : Nat) (v m t : Int32), k + f = 144 → t.toInt = k → v = (wlkF wa wm k).2.2.2.1 → m = (wlkF wa wm k).2.2.2.2.1 → dw_ok (pr_X12_spell K) 21 0 0 [some (.ref 404), some (.int a1), some (.int a2), some (.int a3), some (.int v), some (.int m), some (.int t)] [] (n, SH1, I, J) := by
  have cm1 : (-1 : Int32).toInt = -1 := rfl
  have k0 : (0 : Int32).toInt = 0 := rfl
  have k1 : (1 : Int32).toInt = 1 := rfl
  intro f
  induction f with
  | zero =>
    intro k v m t hf ht hv hm
    obtain rfl : k = 144 := by omega
    refine q_ild rfl rfl ?_
    refine q_ic rfl ?_
    refine q_icmp (c := 3) rfl (by decide) (fun y1 => ?_) (fun h => absurd (show (t).toInt < (144 : Int) from h) (by omega))
    have y1 : (144 : Int) ≤ (t).toInt := y1
    refine q_ild rfl rfl ?_
    rw [hm]
    exact q_iret rfl hk
  | succ f ih =>
    intro k v m t hf ht hv hm
    have htn : t.toInt.toNat = k := by omega
    have ek : (I 422 k).toInt = (wa k).toInt := congrArg Int32.toInt (hT k (by omega))
    have m0 : 0 ≤ m.toInt := by rw [hm]; exact (wk_f (wa := wa) (wm := wm) k (by omega)).2.2.2
    refine q_ild rfl rfl ?_
    refine q_ic rfl ?_
    refine q_icmp (c := 3) rfl (by decide) (fun h => absurd (show (144 : Int) ≤ (t).toInt from h) (by omega)) (fun y2 => ?_)
    have y2 : (t).toInt < (144 : Int) := y2
    refine q_ald rfl rfl ?_
    refine q_getr rfl sk_404 sr_404_42 ?_
    refine q_ild rfl rfl ?_
    refine q_xald rfl (Or.inl rfl) sk_422 sn_422 (by omega) (by omega) ?_
    show dw_ok (pr_X12_spell K) 36 0 0 [some (.ref 404), some (.int a1), some (.int a2), some (.int a3), some (.int v), some (.int m), some (.int t)] [.int (I 422 (t).toInt.toNat)] (n, SH1, I, J)
    rw [htn]
    refine q_if (c := 5) rfl (by decide) (fun y3 => ?_) (fun y3 => ?_)
    · have y3 : ((I 422 k)).toInt ≤ 0 := y3
      refine q_ic rfl ?_
      refine q_ist rfl rfl ?_
      show dw_ok (pr_X12_spell K) 49 0 0 [some (.ref 404), some (.int a1), some (.int a2), some (.int a3), some (.int (0 : Int32)), some (.int m), some (.int t)] [] (n, SH1, I, J)
      refine q_ild rfl rfl ?_
      refine q_ild rfl rfl ?_
      refine q_icmp (c := 5) rfl (by decide) (fun y4 => ?_) (fun y4 => ?_)
      · have y4 : (0 : Int) ≤ (m).toInt := y4
        refine q_ild rfl rfl ?_
        refine q_ist rfl rfl ?_
        show dw_ok (pr_X12_spell K) 65 0 0 [some (.ref 404), some (.int a1), some (.int a2), some (.int a3), some (.int (0 : Int32)), some (.int m), some (.int t)] [] (n, SH1, I, J)
        refine q_inc rfl rfl rfl ?_
        show dw_ok (pr_X12_spell K) 68 0 0 [some (.ref 404), some (.int a1), some (.int a2), some (.int a3), some (.int (0 : Int32)), some (.int m), some (.int (t + 1))] [] (n, SH1, I, J)
        show dw_ok (pr_X12_spell K) 68 0 0 [some (.ref 404), some (.int a1), some (.int a2), some (.int a3), some (.int (0 : Int32)), some (.int m), some (.int (t + 1))] [] (n, SH1, I, J)
        obtain ⟨tx, htx⟩ : ∃ z, z = (t + 1) := ⟨_, rfl⟩
        rw [← htx]
        have etx : tx.toInt = ((k + 1 : Nat) : Int) := by rw [htx]; exact ix_1 ht (by omega)
        refine q_goto rfl ?_
        refine ih (k + 1) (0 : Int32) m tx (by omega) etx ?_ ?_
        · rw [(wlkF_n (wm := wm) (show ¬ 0 < (wa k).toInt by omega)).2.1]
        · rw [(wlkF_n (wm := wm) (show ¬ 0 < (wa k).toInt by omega)).2.2]; exact hm
      · have y4 : (m).toInt < (0 : Int) := y4
        refine q_ild rfl rfl ?_
        refine q_goto rfl ?_
        refine q_ist rfl rfl ?_
        show dw_ok (pr_X12_spell K) 65 0 0 [some (.ref 404), some (.int a1), some (.int a2), some (.int a3), some (.int (0 : Int32)), some (.int (0 : Int32)), some (.int t)] [] (n, SH1, I, J)
        refine q_inc rfl rfl rfl ?_
        show dw_ok (pr_X12_spell K) 68 0 0 [some (.ref 404), some (.int a1), some (.int a2), some (.int a3), some (.int (0 : Int32)), some (.int (0 : Int32)), some (.int (t + 1))] [] (n, SH1, I, J)
        show dw_ok (pr_X12_spell K) 68 0 0 [some (.ref 404), some (.int a1), some (.int a2), some (.int a3), some (.int (0 : Int32)), some (.int (0 : Int32)), some (.int (t + 1))] [] (n, SH1, I, J)
        obtain ⟨tx, htx⟩ : ∃ z, z = (t + 1) := ⟨_, rfl⟩
        rw [← htx]
        have etx : tx.toInt = ((k + 1 : Nat) : Int) := by rw [htx]; exact ix_1 ht (by omega)
        refine q_goto rfl ?_
        exact absurd y4 (by omega)
    · have y3 : 0 < ((I 422 k)).toInt := y3
      refine q_ild rfl rfl ?_
      refine q_ic rfl ?_
      refine q_add rfl ?_
      refine q_goto rfl ?_
      refine q_ist rfl rfl ?_
      show dw_ok (pr_X12_spell K) 49 0 0 [some (.ref 404), some (.int a1), some (.int a2), some (.int a3), some (.int (v + (1 : Int32))), some (.int m), some (.int t)] [] (n, SH1, I, J)
      refine q_ild rfl rfl ?_
      refine q_ild rfl rfl ?_
      refine q_icmp (c := 5) rfl (by decide) (fun y5 => ?_) (fun y5 => ?_)
      · have y5 : ((v + (1 : Int32))).toInt ≤ (m).toInt := y5
        refine q_ild rfl rfl ?_
        refine q_ist rfl rfl ?_
        show dw_ok (pr_X12_spell K) 65 0 0 [some (.ref 404), some (.int a1), some (.int a2), some (.int a3), some (.int (v + (1 : Int32))), some (.int m), some (.int t)] [] (n, SH1, I, J)
        refine q_inc rfl rfl rfl ?_
        show dw_ok (pr_X12_spell K) 68 0 0 [some (.ref 404), some (.int a1), some (.int a2), some (.int a3), some (.int (v + (1 : Int32))), some (.int m), some (.int (t + 1))] [] (n, SH1, I, J)
        show dw_ok (pr_X12_spell K) 68 0 0 [some (.ref 404), some (.int a1), some (.int a2), some (.int a3), some (.int (v + (1 : Int32))), some (.int m), some (.int (t + 1))] [] (n, SH1, I, J)
        obtain ⟨tx, htx⟩ : ∃ z, z = (t + 1) := ⟨_, rfl⟩
        rw [← htx]
        have etx : tx.toInt = ((k + 1 : Nat) : Int) := by rw [htx]; exact ix_1 ht (by omega)
        refine q_goto rfl ?_
        refine ih (k + 1) (v + (1 : Int32)) m tx (by omega) etx ?_ ?_
        · rw [(wlkF_y (wm := wm) (show 0 < (wa k).toInt by omega)).2.1, hv]
        · rw [(wlkF_y (wm := wm) (show 0 < (wa k).toInt by omega)).2.2, ← hv, ← hm, fmx_l y5]
      · have y5 : (m).toInt < ((v + (1 : Int32))).toInt := y5
        refine q_ild rfl rfl ?_
        refine q_goto rfl ?_
        refine q_ist rfl rfl ?_
        show dw_ok (pr_X12_spell K) 65 0 0 [some (.ref 404), some (.int a1), some (.int a2), some (.int a3), some (.int (v + (1 : Int32))), some (.int (v + (1 : Int32))), some (.int t)] [] (n, SH1, I, J)
        refine q_inc rfl rfl rfl ?_
        show dw_ok (pr_X12_spell K) 68 0 0 [some (.ref 404), some (.int a1), some (.int a2), some (.int a3), some (.int (v + (1 : Int32))), some (.int (v + (1 : Int32))), some (.int (t + 1))] [] (n, SH1, I, J)
        show dw_ok (pr_X12_spell K) 68 0 0 [some (.ref 404), some (.int a1), some (.int a2), some (.int a3), some (.int (v + (1 : Int32))), some (.int (v + (1 : Int32))), some (.int (t + 1))] [] (n, SH1, I, J)
        obtain ⟨tx, htx⟩ : ∃ z, z = (t + 1) := ⟨_, rfl⟩
        rw [← htx]
        have etx : tx.toInt = ((k + 1 : Nat) : Int) := by rw [htx]; exact ix_1 ht (by omega)
        refine q_goto rfl ?_
        refine ih (k + 1) (v + (1 : Int32)) (v + (1 : Int32)) tx (by omega) etx ?_ ?_
        · rw [(wlkF_y (wm := wm) (show 0 < (wa k).toInt by omega)).2.1, hv]
        · rw [(wlkF_y (wm := wm) (show 0 < (wa k).toInt by omega)).2.2, ← hv, ← hm, fmx_r y5]
set_option maxRecDepth 8000 in
set_option maxHeartbeats 4000000 in
theorem v_mspell {n : Nat} {I : Nat → Nat → Int32} {J : Nat → Nat → Int64} {K : dw_K} {R : Nat → Int32} (hR : I 406 = R) (hG : GOK R) {a1 a2 a3 : Int32} (hN : okS R a1 → NOK (nX R a1)) (hk : ∀ (w : Int32) (I' : Nat → Nat → Int32), w.toInt = aSpell R a1 a2 a3 → K (some (.int w)) (n, SH1, I', J)) : t_X12_spell [.ref 404, .int a1, .int a2, .int a3] (n, SH1, I, J) K := by
  have cm1 : (-1 : Int32).toInt = -1 := rfl
  have k0 : (0 : Int32).toInt = 0 := rfl
  have k1 : (1 : Int32).toInt = 1 := rfl
  have k2 : (2 : Int32).toInt = 2 := rfl
  refine q_body (Nat.le_of_ble_eq_true rfl) ?_
  refine q_ald rfl rfl ?_
  refine q_ild rfl rfl ?_
  refine q_ild rfl rfl ?_
  refine q_ild rfl rfl ?_
  refine q_callV (as := [.int a1, .int a2, .int a3]) (rest := []) rfl rfl sk_404 rfl (Nat.le_of_ble_eq_true rfl) ?_
  refine v_asks hR hG hN (fun oS oC I1 e1 hT => ?_) (fun hno I1 => ?_)
  · show dw_ok (pr_X12_spell K) 7 0 0 [some (.ref 404), some (.int a1), some (.int a2), some (.int a3), none, none, none] [.int (1 : Int32)] (n, SH1, I1, J)
    refine q_if (c := 1) rfl (by decide) (fun y1 => ?_) (fun h => absurd (show (1 : Int) = 0 from h) (by decide))
    have y1 : (1 : Int) ≠ 0 := y1
    refine q_ic rfl ?_
    refine q_ist rfl rfl ?_
    show dw_ok (pr_X12_spell K) 15 0 0 [some (.ref 404), some (.int a1), some (.int a2), some (.int a3), some (.int (0 : Int32)), none, none] [] (n, SH1, I1, J)
    refine q_ic rfl ?_
    refine q_ist rfl rfl ?_
    show dw_ok (pr_X12_spell K) 18 0 0 [some (.ref 404), some (.int a1), some (.int a2), some (.int a3), some (.int (0 : Int32)), some (.int (0 : Int32)), none] [] (n, SH1, I1, J)
    refine q_ic rfl ?_
    refine q_ist rfl rfl ?_
    show dw_ok (pr_X12_spell K) 21 0 0 [some (.ref 404), some (.int a1), some (.int a2), some (.int a3), some (.int (0 : Int32)), some (.int (0 : Int32)), some (.int (0 : Int32))] [] (n, SH1, I1, J)
    exact msl_loop (wm := wMt R (nX R a1) (cN R a2 a3)) hT (hk _ I1 (by unfold aSpell wkR; rw [if_pos ⟨oS, oC⟩])) 144 0 0 0 0 rfl rfl rfl rfl
  · show dw_ok (pr_X12_spell K) 7 0 0 [some (.ref 404), some (.int a1), some (.int a2), some (.int a3), none, none, none] [.int (0 : Int32)] (n, SH1, I1, J)
    refine q_if (c := 1) rfl (by decide) (fun h => absurd (show (0 : Int) ≠ 0 from h) (by decide)) (fun y2 => ?_)
    have y2 : (0 : Int) = 0 := y2
    refine q_ic rfl ?_
    refine q_iret rfl (hk _ _ ?_)
    unfold aSpell
    rw [if_neg hno]
    exact cm1
set_option maxRecDepth 8000 in
theorem mfr_loop {n : Nat} {J : Nat → Nat → Int64} {K : dw_K} {R S : Nat → Int32} {a1 a2 a3 c : Int32} {cc : Nat} (hG : GOK R) (hS : NOK S) (hc : c.toInt = cc) (hl : cc < Nn R) (hk : ∀ (w : Int32) (I' : Nat → Nat → Int32), w.toInt = fsF (pZ (wAt R S cc) (wMt R S cc)) 0 144 → K (some (.int w)) (n, SH1, I', J)) :
    ∀ (f k : Nat) (t : Int32) (I : Nat → Nat → Int32), k + f = 144 → t.toInt = k → fsF (pZ (wAt R S cc) (wMt R S cc)) 0 144 = fsF (pZ (wAt R S cc) (wMt R S cc)) k f → I 406 = R → MSK I (Nn R) 0 (fun _ => gC R) (gT S) (g0S R S) 0 k → dw_ok (pr_X12_frost K) 41 0 0 [some (.ref 404), some (.int a1), some (.int a2), some (.int a3), some (.int c), some (.int t)] [] (n, SH1, I, J) := by
  have cm1 : (-1 : Int32).toInt = -1 := rfl
  have k0 : (0 : Int32).toInt = 0 := rfl
  have k1 : (1 : Int32).toInt = 1 := rfl
  have hN9 := (gok_N hG).2
  have hcc : c.toInt.toNat = cc := by omega
  intro f
  induction f with
  | zero =>
    intro k t I hf ht hp hR hM
    refine q_ild rfl rfl ?_
    refine q_ic rfl ?_
    refine q_icmp (c := 3) rfl (by decide) (fun y1 => ?_) (fun h => absurd (show (t).toInt < (144 : Int) from h) (by omega))
    have y1 : (144 : Int) ≤ (t).toInt := y1
    refine q_ic rfl ?_
    exact q_iret rfl (hk _ I (cm1.trans hp.symm))
  | succ f ih =>
    intro k t I hf ht hp hR hM
    refine q_ild rfl rfl ?_
    refine q_ic rfl ?_
    refine q_icmp (c := 3) rfl (by decide) (fun h => absurd (show (144 : Int) ≤ (t).toInt from h) (by omega)) (fun y2 => ?_)
    have y2 : (t).toInt < (144 : Int) := y2
    refine q_ald rfl rfl ?_
    refine q_ild rfl rfl ?_
    refine q_callV (as := [.int t]) (rest := []) rfl rfl sk_404 rfl (Nat.le_of_ble_eq_true rfl) ?_
    refine v_mstepR (pur_0 hG hS) hM (by omega) (by omega) (fun I1 g1 g2 hM1 => ?_)
    show dw_ok (pr_X12_frost K) 55 0 0 [some (.ref 404), some (.int a1), some (.int a2), some (.int a3), some (.int c), some (.int t)] [] (n, SH1, I1, J)
    have eI1 : I1 406 = R := (g1 406 (by decide) (by decide) (by decide)).trans hR
    have ewt : (I1 417 cc).toInt = (wAt R S cc k).toInt := congrArg Int32.toInt (hM1.2.2.1.2.1 cc hl)
    have emt : (I1 416 cc).toInt = (wMt R S cc k).toInt := congrArg Int32.toInt (hM1.2.2.1.1 cc hl)
    show dw_ok (pr_X12_frost K) 55 0 0 [some (.ref 404), some (.int a1), some (.int a2), some (.int a3), some (.int c), some (.int t)] [] (n, SH1, I1, J)
    refine q_ald rfl rfl ?_
    refine q_getr rfl sk_404 sr_404_29 ?_
    refine q_ild rfl rfl ?_
    refine q_xald rfl (Or.inl rfl) sk_417 sn_417 (by omega) (by omega) ?_
    show dw_ok (pr_X12_frost K) 62 0 0 [some (.ref 404), some (.int a1), some (.int a2), some (.int a3), some (.int c), some (.int t)] [.int (I1 417 (c).toInt.toNat)] (n, SH1, I1, J)
    rw [hcc]
    refine q_if (c := 5) rfl (by decide) (fun y3 => ?_) (fun y3 => ?_)
    · have y3 : ((I1 417 cc)).toInt ≤ 0 := y3
      refine q_inc rfl rfl rfl ?_
      show dw_ok (pr_X12_frost K) 81 0 0 [some (.ref 404), some (.int a1), some (.int a2), some (.int a3), some (.int c), some (.int (t + 1))] [] (n, SH1, I1, J)
      show dw_ok (pr_X12_frost K) 81 0 0 [some (.ref 404), some (.int a1), some (.int a2), some (.int a3), some (.int c), some (.int (t + 1))] [] (n, SH1, I1, J)
      obtain ⟨tx, htx⟩ : ∃ z, z = (t + 1) := ⟨_, rfl⟩
      rw [← htx]
      have etx : tx.toInt = ((k + 1 : Nat) : Int) := by rw [htx]; exact ix_1 ht (by omega)
      refine q_goto rfl ?_
      exact ih (k + 1) tx I1 (by omega) etx (by rw [hp, fs_n (pz_n (fun q => by omega))]) eI1 hM1
    · have y3 : 0 < ((I1 417 cc)).toInt := y3
      refine q_ald rfl rfl ?_
      refine q_getr rfl sk_404 sr_404_28 ?_
      refine q_ild rfl rfl ?_
      refine q_xald rfl (Or.inl rfl) sk_416 sn_416 (by omega) (by omega) ?_
      show dw_ok (pr_X12_frost K) 72 0 0 [some (.ref 404), some (.int a1), some (.int a2), some (.int a3), some (.int c), some (.int t)] [.int (I1 416 (c).toInt.toNat)] (n, SH1, I1, J)
      rw [hcc]
      refine q_if (c := 3) rfl (by decide) (fun y4 => ?_) (fun y4 => ?_)
      · have y4 : 0 ≤ ((I1 416 cc)).toInt := y4
        refine q_inc rfl rfl rfl ?_
        show dw_ok (pr_X12_frost K) 81 0 0 [some (.ref 404), some (.int a1), some (.int a2), some (.int a3), some (.int c), some (.int (t + 1))] [] (n, SH1, I1, J)
        show dw_ok (pr_X12_frost K) 81 0 0 [some (.ref 404), some (.int a1), some (.int a2), some (.int a3), some (.int c), some (.int (t + 1))] [] (n, SH1, I1, J)
        obtain ⟨tx, htx⟩ : ∃ z, z = (t + 1) := ⟨_, rfl⟩
        rw [← htx]
        have etx : tx.toInt = ((k + 1 : Nat) : Int) := by rw [htx]; exact ix_1 ht (by omega)
        refine q_goto rfl ?_
        exact ih (k + 1) tx I1 (by omega) etx (by rw [hp, fs_n (pz_n (fun q => by omega))]) eI1 hM1
      · have y4 : ((I1 416 cc)).toInt < 0 := y4
        refine q_ild rfl rfl ?_
        exact q_iret rfl (hk _ I1 (by rw [hp, fs_y (pz_y ⟨by omega, by omega⟩), ht]))
set_option maxRecDepth 8000 in
set_option maxHeartbeats 4000000 in
theorem v_mfrost {n : Nat} {I : Nat → Nat → Int32} {J : Nat → Nat → Int64} {K : dw_K} {R : Nat → Int32} (hR : I 406 = R) (hG : GOK R) {a1 a2 a3 : Int32} (hN : okS R a1 → NOK (nX R a1)) (hk : ∀ (w : Int32) (I' : Nat → Nat → Int32), w.toInt = aFrost R a1 a2 a3 → K (some (.int w)) (n, SH1, I', J)) : t_X12_frost [.ref 404, .int a1, .int a2, .int a3] (n, SH1, I, J) K := by
  have cm1 : (-1 : Int32).toInt = -1 := rfl
  have k0 : (0 : Int32).toInt = 0 := rfl
  have k1 : (1 : Int32).toInt = 1 := rfl
  have k2 : (2 : Int32).toInt = 2 := rfl
  refine q_body (Nat.le_of_ble_eq_true rfl) ?_
  refine q_ald rfl rfl ?_
  refine q_ic rfl ?_
  refine q_puti rfl sk_404 ?_
  show dw_ok (pr_X12_frost K) 5 0 0 [some (.ref 404), some (.int a1), some (.int a2), some (.int a3), none, none] [] (n, SH1, (dw_up I 404 0 (0 : Int32)), J)
  refine q_ald rfl rfl ?_
  refine q_ild rfl rfl ?_
  refine q_callV (as := [.int a1]) (rest := []) rfl rfl sk_404 rfl (Nat.le_of_ble_eq_true rfl) ?_
  obtain ⟨I1, hI1⟩ : ∃ X, X = (dw_up I 404 0 (0 : Int32)) := ⟨_, rfl⟩
  rw [← hI1]
  have eI1 : I1 406 = R := by rw [hI1]; exact ((up_row (by decide)).trans (hR))
  refine v_isNight (fun w_ oS => ?_)
  rcases oS with ⟨rfl, oS⟩ | ⟨rfl, oS⟩
  · show dw_ok (pr_X12_frost K) 10 0 0 [some (.ref 404), some (.int a1), some (.int a2), some (.int a3), none, none] [.int (1 : Int32)] (n, SH1, I1, J)
    refine q_if (c := 0) rfl (by decide) (fun h => absurd (show (1 : Int) = 0 from h) (by decide)) (fun y2 => ?_)
    have y2 : (1 : Int) ≠ 0 := y2
    refine q_ald rfl rfl ?_
    refine q_ild rfl rfl ?_
    refine q_ild rfl rfl ?_
    refine q_callV (as := [.int a2, .int a3]) (rest := []) rfl rfl sk_404 rfl (Nat.le_of_ble_eq_true rfl) ?_
    refine v_misCell (C := Cn R) (R := Rn R) (by rw [eI1]; exact hG.1.1) (by rw [eI1]; exact hG.1.2.1) (fun w_ oC => ?_)
    rcases oC with ⟨rfl, oC⟩ | ⟨rfl, oC⟩
    · show dw_ok (pr_X12_frost K) 19 0 0 [some (.ref 404), some (.int a1), some (.int a2), some (.int a3), none, none] [.int (1 : Int32)] (n, SH1, I1, J)
      refine q_if (c := 1) rfl (by decide) (fun y3 => ?_) (fun h => absurd (show (1 : Int) = 0 from h) (by decide))
      have y3 : (1 : Int) ≠ 0 := y3
      refine q_ald rfl rfl ?_
      refine q_ild rfl rfl ?_
      refine q_ild rfl rfl ?_
      refine q_callV (as := [.int a2, .int a3]) (rest := []) rfl rfl sk_404 rfl (Nat.le_of_ble_eq_true rfl) ?_
      refine v_numberOf ?_
      show dw_ok (pr_X12_frost K) 30 0 0 [some (.ref 404), some (.int a1), some (.int a2), some (.int a3), none, none] [.int (I1 406 0 * a3 + a2)] (n, SH1, I1, J)
      rw [eI1]
      have en : (R 0 * a3 + a2).toInt.toNat = cN R a2 a3 := by rw [(cN_i hG oC).2]; rfl
      have el := cN_lt oC
      have el9 := (gok_N hG).2
      have ei : (R 0 * a3 + a2).toInt = (cN R a2 a3 : Nat) := (cN_i hG oC).2
      show dw_ok (pr_X12_frost K) 30 0 0 [some (.ref 404), some (.int a1), some (.int a2), some (.int a3), none, none] [.int (R 0 * a3 + a2)] (n, SH1, I1, J)
      refine q_ist rfl rfl ?_
      show dw_ok (pr_X12_frost K) 32 0 0 [some (.ref 404), some (.int a1), some (.int a2), some (.int a3), some (.int (R 0 * a3 + a2)), none] [] (n, SH1, I1, J)
      show dw_ok (pr_X12_frost K) 32 0 0 [some (.ref 404), some (.int a1), some (.int a2), some (.int a3), some (.int (R 0 * a3 + a2)), none] [] (n, SH1, I1, J)
      obtain ⟨c4, hc4⟩ : ∃ z, z = (R 0 * a3 + a2) := ⟨_, rfl⟩
      rw [← hc4]
      have ec4 : c4.toInt = ((cN R a2 a3 : Nat) : Int) := by rw [hc4]; exact ei
      refine q_ald rfl rfl ?_
      refine q_ild rfl rfl ?_
      refine q_ic rfl ?_
      refine q_callV (as := [.int a1, .int (0 : Int32)]) (rest := []) rfl rfl sk_404 rfl (Nat.le_of_ble_eq_true rfl) ?_
      rw [eI1] at oS
      refine v_mstartR (st := 0) eI1 hG oS (hN oS) rfl (fun I9 g0 _ _ hM _ => ?_)
      have e9 : I9 406 = R := (g0 406 (by decide) (by decide)).trans eI1
      show dw_ok (pr_X12_frost K) 38 0 0 [some (.ref 404), some (.int a1), some (.int a2), some (.int a3), some (.int c4), none] [] (n, SH1, I9, J)
      refine q_ic rfl ?_
      refine q_ist rfl rfl ?_
      show dw_ok (pr_X12_frost K) 41 0 0 [some (.ref 404), some (.int a1), some (.int a2), some (.int a3), some (.int c4), some (.int (0 : Int32))] [] (n, SH1, I9, J)
      exact mfr_loop (cc := cN R a2 a3) hG (hN oS) ec4 el (fun w I' hw => hk w I' (by unfold aFrost; rw [if_pos ⟨oS, oC⟩]; exact hw.trans wk_R.2.2.symm)) 144 0 0 I9 rfl rfl rfl e9 hM
    · show dw_ok (pr_X12_frost K) 19 0 0 [some (.ref 404), some (.int a1), some (.int a2), some (.int a3), none, none] [.int (0 : Int32)] (n, SH1, I1, J)
      refine q_if (c := 1) rfl (by decide) (fun h => absurd (show (0 : Int) ≠ 0 from h) (by decide)) (fun y4 => ?_)
      have y4 : (0 : Int) = 0 := y4
      refine q_ic rfl ?_
      refine q_iret rfl (hk _ _ ?_)
      unfold aFrost
      rw [if_neg (fun q => oC q.2)]
      exact cm1
  · show dw_ok (pr_X12_frost K) 10 0 0 [some (.ref 404), some (.int a1), some (.int a2), some (.int a3), none, none] [.int (0 : Int32)] (n, SH1, I1, J)
    refine q_if (c := 0) rfl (by decide) (fun y5 => ?_) (fun h => absurd (show (0 : Int) ≠ 0 from h) (by decide))
    have y5 : (0 : Int) = 0 := y5
    refine q_ic rfl ?_
    refine q_iret rfl (hk _ _ ?_)
    unfold aFrost
    rw [if_neg (by rw [eI1] at oS; exact fun q => oS q.1)]
    exact cm1
def spA (a l : Int32) : Int32 := if 0 < a.toInt then l + 1 else 0
def spB (a l m : Int32) : Int32 := if 0 < a.toInt then fi_max m (l + 1) else m
set_option maxRecDepth 8000 in
theorem spA_y {a l : Int32} (h : 0 < a.toInt) : spA a l = l + 1 := if_pos h
set_option maxRecDepth 8000 in
theorem spA_n {a l : Int32} (h : ¬ 0 < a.toInt) : spA a l = 0 := if_neg h
set_option maxRecDepth 8000 in
theorem spB_y {a l m : Int32} (h : 0 < a.toInt) : spB a l m = fi_max m (l + 1) := if_pos h
set_option maxRecDepth 8000 in
theorem spB_n {a l m : Int32} (h : ¬ 0 < a.toInt) : spB a l m = m := if_neg h
set_option maxRecDepth 8000 in
theorem wk_sp {wa wm : Nat → Int32} {k : Nat} : (wlkF wa wm (k + 1)).2.2.2.1 = spA (wa k) (wlkF wa wm k).2.2.2.1 ∧ (wlkF wa wm (k + 1)).2.2.2.2.1 = spB (wa k) (wlkF wa wm k).2.2.2.1 (wlkF wa wm k).2.2.2.2.1 := by
  by_cases h : 0 < (wa k).toInt
  · rw [spA_y h, spB_y h]; exact (wlkF_y h).2
  · rw [spA_n h, spB_n h]; exact (wlkF_n h).2
set_option maxRecDepth 8000 in
theorem msc_loop {n : Nat} {J : Nat → Nat → Int64} {K : dw_K} {R : Nat → Int32} {a1 a2 : Int32} {v : Option Value} {I0 : Nat → Nat → Int32} (e0 : I0 406 = R) (hG : GOK R)
    (hk : ∀ (c : Int32) (I' : Nat → Nat → Int32), (∀ a, a ≠ 423 → a ≠ 424 → I' a = I0 a) → (∀ j, j < Nn R → I' 423 j = 0 ∧ I' 424 j = 0) → dw_ok (pr_X12_sick K) 62 0 0 [some (.ref 404), some (.int a1), some (.int a2), some (.int c), v] [] (n, SH1, I', J)) :
    ∀ (f k : Nat) (c : Int32) (I : Nat → Nat → Int32), k + f = Nn R → c.toInt = k → (∀ a, a ≠ 423 → a ≠ 424 → I a = I0 a) → (∀ j, j < k → I 423 j = 0 ∧ I 424 j = 0) → dw_ok (pr_X12_sick K) 34 0 0 [some (.ref 404), some (.int a1), some (.int a2), some (.int c), v] [] (n, SH1, I, J) := by
  have cm1 : (-1 : Int32).toInt = -1 := rfl
  have k0 : (0 : Int32).toInt = 0 := rfl
  have k1 : (1 : Int32).toInt = 1 := rfl
  obtain ⟨hN, hN9⟩ := gok_N hG
  intro f
  induction f with
  | zero =>
    intro k c I hf hc hfr h1
    have e1 : I 406 = R := (hfr 406 (by decide) (by decide)).trans e0
    obtain rfl : k = Nn R := by omega
    refine q_ild rfl rfl ?_
    refine q_ald rfl rfl ?_
    refine q_callV (as := []) (rest := [.int c]) rfl rfl sk_404 rfl (Nat.le_of_ble_eq_true rfl) ?_
    refine v_mcells ?_
    show dw_ok (pr_X12_sick K) 39 0 0 [some (.ref 404), some (.int a1), some (.int a2), some (.int c), v] [.int (I 406 0 * I 406 1), .int c] (n, SH1, I, J)
    rw [show I 406 = R from e1]
    obtain ⟨nv1, hnv1⟩ : ∃ z, z = R 0 * R 1 := ⟨_, rfl⟩
    rw [← hnv1]
    have env1 : nv1.toInt = Nn R := by rw [hnv1]; exact hN
    show dw_ok (pr_X12_sick K) 39 0 0 [some (.ref 404), some (.int a1), some (.int a2), some (.int c), v] [.int nv1, .int c] (n, SH1, I, J)
    refine q_icmp (c := 3) rfl (by decide) (fun y2 => ?_) (fun h => absurd (show (c).toInt < (nv1).toInt from h) (by omega))
    have y2 : (nv1).toInt ≤ (c).toInt := y2
    exact hk c I hfr h1
  | succ f ih =>
    intro k c I hf hc hfr h1
    have e1 : I 406 = R := (hfr 406 (by decide) (by decide)).trans e0
    have hcn : c.toInt.toNat = k := by omega
    refine q_ild rfl rfl ?_
    refine q_ald rfl rfl ?_
    refine q_callV (as := []) (rest := [.int c]) rfl rfl sk_404 rfl (Nat.le_of_ble_eq_true rfl) ?_
    refine v_mcells ?_
    show dw_ok (pr_X12_sick K) 39 0 0 [some (.ref 404), some (.int a1), some (.int a2), some (.int c), v] [.int (I 406 0 * I 406 1), .int c] (n, SH1, I, J)
    rw [show I 406 = R from e1]
    obtain ⟨nv3, hnv3⟩ : ∃ z, z = R 0 * R 1 := ⟨_, rfl⟩
    rw [← hnv3]
    have env3 : nv3.toInt = Nn R := by rw [hnv3]; exact hN
    show dw_ok (pr_X12_sick K) 39 0 0 [some (.ref 404), some (.int a1), some (.int a2), some (.int c), v] [.int nv3, .int c] (n, SH1, I, J)
    refine q_icmp (c := 3) rfl (by decide) (fun h => absurd (show (nv3).toInt ≤ (c).toInt from h) (by omega)) (fun y4 => ?_)
    have y4 : (c).toInt < (nv3).toInt := y4
    refine q_ald rfl rfl ?_
    refine q_getr rfl sk_404 sr_404_43 ?_
    refine q_ild rfl rfl ?_
    refine q_ic rfl ?_
    refine q_iast rfl sk_423 sn_423 (by omega) (by omega) ?_
    show dw_ok (pr_X12_sick K) 49 0 0 [some (.ref 404), some (.int a1), some (.int a2), some (.int c), v] [] (n, SH1, (dw_up I 423 (c).toInt.toNat (0 : Int32)), J)
    rw [hcn]
    refine q_ald rfl rfl ?_
    refine q_getr rfl sk_404 sr_404_44 ?_
    refine q_ild rfl rfl ?_
    refine q_ic rfl ?_
    refine q_iast rfl sk_424 sn_424 (by omega) (by omega) ?_
    show dw_ok (pr_X12_sick K) 56 0 0 [some (.ref 404), some (.int a1), some (.int a2), some (.int c), v] [] (n, SH1, (dw_up (dw_up I 423 k (0 : Int32)) 424 (c).toInt.toNat (0 : Int32)), J)
    rw [hcn]
    refine q_inc rfl rfl rfl ?_
    show dw_ok (pr_X12_sick K) 59 0 0 [some (.ref 404), some (.int a1), some (.int a2), some (.int (c + 1)), v] [] (n, SH1, (dw_up (dw_up I 423 k (0 : Int32)) 424 k (0 : Int32)), J)
    show dw_ok (pr_X12_sick K) 59 0 0 [some (.ref 404), some (.int a1), some (.int a2), some (.int (c + 1)), v] [] (n, SH1, (dw_up (dw_up I 423 k (0 : Int32)) 424 k (0 : Int32)), J)
    obtain ⟨cx, hcx⟩ : ∃ z, z = (c + 1) := ⟨_, rfl⟩
    rw [← hcx]
    have ecx : cx.toInt = ((k + 1 : Nat) : Int) := by rw [hcx]; exact ix_1 hc (by omega)
    refine q_goto rfl ?_
    refine ih (k + 1) cx (dw_up (dw_up I 423 k (0 : Int32)) 424 k (0 : Int32)) (by omega) ecx (fun a q1 q2 => (up_row q2).trans ((up_row q1).trans (hfr a q1 q2))) (fun j hj => ?_)
    by_cases e : j = k
    · subst e
      exact ⟨(congrFun (up_row (by decide)) _).trans up_same, up_same⟩
    · obtain ⟨z1, z2⟩ := h1 j (by omega)
      exact ⟨(congrFun (up_row (by decide)) _).trans ((up_fld e).trans z1), (up_fld e).trans ((congrFun (up_row (by decide)) _).trans z2)⟩
set_option maxRecDepth 8000 in
theorem msi_loop {n : Nat} {J : Nat → Nat → Int64} {K : dw_K} {R : Nat → Int32} {a1 a2 t : Int32} {I0 : Nat → Nat → Int32} (e0 : I0 406 = R) (hG : GOK R) (h0 : ∀ j, j < Nn R → 0 ≤ (I0 424 j).toInt)
    (hk : ∀ (c : Int32) (I' : Nat → Nat → Int32), (∀ a, a ≠ 423 → a ≠ 424 → I' a = I0 a) → (∀ j, j < Nn R → I' 423 j = spA (I0 417 j) (I0 423 j) ∧ I' 424 j = spB (I0 417 j) (I0 423 j) (I0 424 j)) → dw_ok (pr_X12_sick K) 165 0 0 [some (.ref 404), some (.int a1), some (.int a2), some (.int t), some (.int c)] [] (n, SH1, I', J)) :
    ∀ (f k : Nat) (c : Int32) (I : Nat → Nat → Int32), k + f = Nn R → c.toInt = k → (∀ a, a ≠ 423 → a ≠ 424 → I a = I0 a) → (∀ j, j < k → I 423 j = spA (I0 417 j) (I0 423 j) ∧ I 424 j = spB (I0 417 j) (I0 423 j) (I0 424 j)) → (∀ j, k ≤ j → I 423 j = I0 423 j ∧ I 424 j = I0 424 j) → dw_ok (pr_X12_sick K) 79 0 0 [some (.ref 404), some (.int a1), some (.int a2), some (.int t), some (.int c)] [] (n, SH1, I, J) := by
  have cm1 : (-1 : Int32).toInt = -1 := rfl
  have k0 : (0 : Int32).toInt = 0 := rfl
  have k1 : (1 : Int32).toInt = 1 := rfl
  obtain ⟨hN, hN9⟩ := gok_N hG
  intro f
  induction f with
  | zero =>
    intro k c I hf hc hfr h1 h2
    have e1 : I 406 = R := (hfr 406 (by decide) (by decide)).trans e0
    obtain rfl : k = Nn R := by omega
    refine q_ild rfl rfl ?_
    refine q_ald rfl rfl ?_
    refine q_callV (as := []) (rest := [.int c]) rfl rfl sk_404 rfl (Nat.le_of_ble_eq_true rfl) ?_
    refine v_mcells ?_
    show dw_ok (pr_X12_sick K) 85 0 0 [some (.ref 404), some (.int a1), some (.int a2), some (.int t), some (.int c)] [.int (I 406 0 * I 406 1), .int c] (n, SH1, I, J)
    rw [show I 406 = R from e1]
    obtain ⟨nv1, hnv1⟩ : ∃ z, z = R 0 * R 1 := ⟨_, rfl⟩
    rw [← hnv1]
    have env1 : nv1.toInt = Nn R := by rw [hnv1]; exact hN
    show dw_ok (pr_X12_sick K) 85 0 0 [some (.ref 404), some (.int a1), some (.int a2), some (.int t), some (.int c)] [.int nv1, .int c] (n, SH1, I, J)
    refine q_icmp (c := 3) rfl (by decide) (fun y2 => ?_) (fun h => absurd (show (c).toInt < (nv1).toInt from h) (by omega))
    have y2 : (nv1).toInt ≤ (c).toInt := y2
    exact hk c I hfr h1
  | succ f ih =>
    intro k c I hf hc hfr h1 h2
    have e1 : I 406 = R := (hfr 406 (by decide) (by decide)).trans e0
    have hcn : c.toInt.toNat = k := by omega
    obtain ⟨b1, b2⟩ := h2 k (Nat.le_refl k)
    have ew : (I 417 k).toInt = (I0 417 k).toInt := by rw [hfr 417 (by decide) (by decide)]
    have m0 : 0 ≤ (I 424 k).toInt := by rw [b2]; exact h0 k (by omega)
    refine q_ild rfl rfl ?_
    refine q_ald rfl rfl ?_
    refine q_callV (as := []) (rest := [.int c]) rfl rfl sk_404 rfl (Nat.le_of_ble_eq_true rfl) ?_
    refine v_mcells ?_
    show dw_ok (pr_X12_sick K) 85 0 0 [some (.ref 404), some (.int a1), some (.int a2), some (.int t), some (.int c)] [.int (I 406 0 * I 406 1), .int c] (n, SH1, I, J)
    rw [show I 406 = R from e1]
    obtain ⟨nv3, hnv3⟩ : ∃ z, z = R 0 * R 1 := ⟨_, rfl⟩
    rw [← hnv3]
    have env3 : nv3.toInt = Nn R := by rw [hnv3]; exact hN
    show dw_ok (pr_X12_sick K) 85 0 0 [some (.ref 404), some (.int a1), some (.int a2), some (.int t), some (.int c)] [.int nv3, .int c] (n, SH1, I, J)
    refine q_icmp (c := 3) rfl (by decide) (fun h => absurd (show (nv3).toInt ≤ (c).toInt from h) (by omega)) (fun y4 => ?_)
    have y4 : (c).toInt < (nv3).toInt := y4
    refine q_ald rfl rfl ?_
    refine q_getr rfl sk_404 sr_404_43 ?_
    refine q_ild rfl rfl ?_
    refine q_ald rfl rfl ?_
    refine q_getr rfl sk_404 sr_404_29 ?_
    refine q_ild rfl rfl ?_
    refine q_xald rfl (Or.inl rfl) sk_417 sn_417 (by omega) (by omega) ?_
    show dw_ok (pr_X12_sick K) 101 0 0 [some (.ref 404), some (.int a1), some (.int a2), some (.int t), some (.int c)] [.int (I 417 (c).toInt.toNat), .int c, .ref 423] (n, SH1, I, J)
    rw [hcn]
    refine q_if (c := 5) rfl (by decide) (fun y5 => ?_) (fun y5 => ?_)
    · have y5 : ((I 417 k)).toInt ≤ 0 := y5
      refine q_ic rfl ?_
      refine q_iast rfl sk_423 sn_423 (by omega) (by omega) ?_
      show dw_ok (pr_X12_sick K) 118 0 0 [some (.ref 404), some (.int a1), some (.int a2), some (.int t), some (.int c)] [] (n, SH1, (dw_up I 423 (c).toInt.toNat (0 : Int32)), J)
      rw [hcn]
      refine q_ald rfl rfl ?_
      refine q_getr rfl sk_404 sr_404_44 ?_
      refine q_ild rfl rfl ?_
      refine q_ald rfl rfl ?_
      refine q_getr rfl sk_404 sr_404_43 ?_
      refine q_ild rfl rfl ?_
      refine q_xald rfl (Or.inl rfl) sk_423 sn_423 (by omega) (by omega) ?_
      show dw_ok (pr_X12_sick K) 131 0 0 [some (.ref 404), some (.int a1), some (.int a2), some (.int t), some (.int c)] [.int ((dw_up I 423 k (0 : Int32)) 423 (c).toInt.toNat), .int c, .ref 424] (n, SH1, (dw_up I 423 k (0 : Int32)), J)
      rw [hcn]
      show dw_ok (pr_X12_sick K) 131 0 0 [some (.ref 404), some (.int a1), some (.int a2), some (.int t), some (.int c)] [.int ((dw_up I 423 k (0 : Int32)) 423 k), .int c, .ref 424] (n, SH1, (dw_up I 423 k (0 : Int32)), J)
      rw [show ((dw_up I 423 k (0 : Int32)) 423 k) = (0 : Int32) from up_same]
      refine q_ald rfl rfl ?_
      refine q_getr rfl sk_404 sr_404_44 ?_
      refine q_ild rfl rfl ?_
      refine q_xald rfl (Or.inl rfl) sk_424 sn_424 (by omega) (by omega) ?_
      show dw_ok (pr_X12_sick K) 138 0 0 [some (.ref 404), some (.int a1), some (.int a2), some (.int t), some (.int c)] [.int ((dw_up I 423 k (0 : Int32)) 424 (c).toInt.toNat), .int (0 : Int32), .int c, .ref 424] (n, SH1, (dw_up I 423 k (0 : Int32)), J)
      rw [hcn]
      show dw_ok (pr_X12_sick K) 138 0 0 [some (.ref 404), some (.int a1), some (.int a2), some (.int t), some (.int c)] [.int ((dw_up I 423 k (0 : Int32)) 424 k), .int (0 : Int32), .int c, .ref 424] (n, SH1, (dw_up I 423 k (0 : Int32)), J)
      rw [show ((dw_up I 423 k (0 : Int32)) 424 k) = (I 424 k) from (up_ne (Or.inl (by decide)))]
      refine q_icmp (c := 5) rfl (by decide) (fun y6 => ?_) (fun y6 => ?_)
      · have y6 : (0 : Int) ≤ ((I 424 k)).toInt := y6
        refine q_ald rfl rfl ?_
        refine q_getr rfl sk_404 sr_404_44 ?_
        refine q_ild rfl rfl ?_
        refine q_xald rfl (Or.inl rfl) sk_424 sn_424 (by omega) (by omega) ?_
        show dw_ok (pr_X12_sick K) 158 0 0 [some (.ref 404), some (.int a1), some (.int a2), some (.int t), some (.int c)] [.int ((dw_up I 423 k (0 : Int32)) 424 (c).toInt.toNat), .int c, .ref 424] (n, SH1, (dw_up I 423 k (0 : Int32)), J)
        rw [hcn]
        show dw_ok (pr_X12_sick K) 158 0 0 [some (.ref 404), some (.int a1), some (.int a2), some (.int t), some (.int c)] [.int ((dw_up I 423 k (0 : Int32)) 424 k), .int c, .ref 424] (n, SH1, (dw_up I 423 k (0 : Int32)), J)
        rw [show ((dw_up I 423 k (0 : Int32)) 424 k) = (I 424 k) from (up_ne (Or.inl (by decide)))]
        refine q_iast rfl sk_424 sn_424 (by omega) (by omega) ?_
        show dw_ok (pr_X12_sick K) 159 0 0 [some (.ref 404), some (.int a1), some (.int a2), some (.int t), some (.int c)] [] (n, SH1, (dw_up (dw_up I 423 k (0 : Int32)) 424 (c).toInt.toNat (I 424 k)), J)
        rw [hcn]
        refine q_inc rfl rfl rfl ?_
        show dw_ok (pr_X12_sick K) 162 0 0 [some (.ref 404), some (.int a1), some (.int a2), some (.int t), some (.int (c + 1))] [] (n, SH1, (dw_up (dw_up I 423 k (0 : Int32)) 424 k (I 424 k)), J)
        show dw_ok (pr_X12_sick K) 162 0 0 [some (.ref 404), some (.int a1), some (.int a2), some (.int t), some (.int (c + 1))] [] (n, SH1, (dw_up (dw_up I 423 k (0 : Int32)) 424 k (I 424 k)), J)
        obtain ⟨cx, hcx⟩ : ∃ z, z = (c + 1) := ⟨_, rfl⟩
        rw [← hcx]
        have ecx : cx.toInt = ((k + 1 : Nat) : Int) := by rw [hcx]; exact ix_1 hc (by omega)
        refine q_goto rfl ?_
        have g1 : (0 : Int32) = spA (I0 417 k) (I0 423 k) := by rw [spA_n (by omega)]
        have g2 : (I 424 k) = spB (I0 417 k) (I0 423 k) (I0 424 k) := by rw [spB_n (by omega)]; exact b2
        refine ih (k + 1) cx (dw_up (dw_up I 423 k (0 : Int32)) 424 k (I 424 k)) (by omega) ecx (fun a q1 q2 => (up_row q2).trans ((up_row q1).trans (hfr a q1 q2))) (fun j hj => ?_) (fun j hj => ?_)
        · by_cases e : j = k
          · rw [e]
            exact ⟨(congrFun (up_row (by decide)) _).trans (up_same.trans g1), up_same.trans g2⟩
          · obtain ⟨z1, z2⟩ := h1 j (by omega)
            exact ⟨(congrFun (up_row (by decide)) _).trans ((up_fld e).trans z1), (up_fld e).trans ((congrFun (up_row (by decide)) _).trans z2)⟩
        · have e : j ≠ k := by omega
          obtain ⟨z1, z2⟩ := h2 j (by omega)
          exact ⟨(congrFun (up_row (by decide)) _).trans ((up_fld e).trans z1), (up_fld e).trans ((congrFun (up_row (by decide)) _).trans z2)⟩
      · have y6 : ((I 424 k)).toInt < (0 : Int) := y6
        refine q_ald rfl rfl ?_
        refine q_getr rfl sk_404 sr_404_43 ?_
        refine q_ild rfl rfl ?_
        refine q_xald rfl (Or.inl rfl) sk_423 sn_423 (by omega) (by omega) ?_
        show dw_ok (pr_X12_sick K) 148 0 0 [some (.ref 404), some (.int a1), some (.int a2), some (.int t), some (.int c)] [.int ((dw_up I 423 k (0 : Int32)) 423 (c).toInt.toNat), .int c, .ref 424] (n, SH1, (dw_up I 423 k (0 : Int32)), J)
        rw [hcn]
        show dw_ok (pr_X12_sick K) 148 0 0 [some (.ref 404), some (.int a1), some (.int a2), some (.int t), some (.int c)] [.int ((dw_up I 423 k (0 : Int32)) 423 k), .int c, .ref 424] (n, SH1, (dw_up I 423 k (0 : Int32)), J)
        rw [show ((dw_up I 423 k (0 : Int32)) 423 k) = (0 : Int32) from up_same]
        refine q_goto rfl ?_
        refine q_iast rfl sk_424 sn_424 (by omega) (by omega) ?_
        show dw_ok (pr_X12_sick K) 159 0 0 [some (.ref 404), some (.int a1), some (.int a2), some (.int t), some (.int c)] [] (n, SH1, (dw_up (dw_up I 423 k (0 : Int32)) 424 (c).toInt.toNat (0 : Int32)), J)
        rw [hcn]
        refine q_inc rfl rfl rfl ?_
        show dw_ok (pr_X12_sick K) 162 0 0 [some (.ref 404), some (.int a1), some (.int a2), some (.int t), some (.int (c + 1))] [] (n, SH1, (dw_up (dw_up I 423 k (0 : Int32)) 424 k (0 : Int32)), J)
        show dw_ok (pr_X12_sick K) 162 0 0 [some (.ref 404), some (.int a1), some (.int a2), some (.int t), some (.int (c + 1))] [] (n, SH1, (dw_up (dw_up I 423 k (0 : Int32)) 424 k (0 : Int32)), J)
        obtain ⟨cx, hcx⟩ : ∃ z, z = (c + 1) := ⟨_, rfl⟩
        rw [← hcx]
        have ecx : cx.toInt = ((k + 1 : Nat) : Int) := by rw [hcx]; exact ix_1 hc (by omega)
        refine q_goto rfl ?_
        exact absurd y6 (by omega)
    · have y5 : 0 < ((I 417 k)).toInt := y5
      refine q_ald rfl rfl ?_
      refine q_getr rfl sk_404 sr_404_43 ?_
      refine q_ild rfl rfl ?_
      refine q_xald rfl (Or.inl rfl) sk_423 sn_423 (by omega) (by omega) ?_
      show dw_ok (pr_X12_sick K) 111 0 0 [some (.ref 404), some (.int a1), some (.int a2), some (.int t), some (.int c)] [.int (I 423 (c).toInt.toNat), .int c, .ref 423] (n, SH1, I, J)
      rw [hcn]
      refine q_ic rfl ?_
      refine q_add rfl ?_
      refine q_goto rfl ?_
      refine q_iast rfl sk_423 sn_423 (by omega) (by omega) ?_
      show dw_ok (pr_X12_sick K) 118 0 0 [some (.ref 404), some (.int a1), some (.int a2), some (.int t), some (.int c)] [] (n, SH1, (dw_up I 423 (c).toInt.toNat ((I 423 k) + (1 : Int32))), J)
      rw [hcn]
      refine q_ald rfl rfl ?_
      refine q_getr rfl sk_404 sr_404_44 ?_
      refine q_ild rfl rfl ?_
      refine q_ald rfl rfl ?_
      refine q_getr rfl sk_404 sr_404_43 ?_
      refine q_ild rfl rfl ?_
      refine q_xald rfl (Or.inl rfl) sk_423 sn_423 (by omega) (by omega) ?_
      show dw_ok (pr_X12_sick K) 131 0 0 [some (.ref 404), some (.int a1), some (.int a2), some (.int t), some (.int c)] [.int ((dw_up I 423 k ((I 423 k) + (1 : Int32))) 423 (c).toInt.toNat), .int c, .ref 424] (n, SH1, (dw_up I 423 k ((I 423 k) + (1 : Int32))), J)
      rw [hcn]
      show dw_ok (pr_X12_sick K) 131 0 0 [some (.ref 404), some (.int a1), some (.int a2), some (.int t), some (.int c)] [.int ((dw_up I 423 k ((I 423 k) + (1 : Int32))) 423 k), .int c, .ref 424] (n, SH1, (dw_up I 423 k ((I 423 k) + (1 : Int32))), J)
      rw [show ((dw_up I 423 k ((I 423 k) + (1 : Int32))) 423 k) = ((I 423 k) + (1 : Int32)) from up_same]
      refine q_ald rfl rfl ?_
      refine q_getr rfl sk_404 sr_404_44 ?_
      refine q_ild rfl rfl ?_
      refine q_xald rfl (Or.inl rfl) sk_424 sn_424 (by omega) (by omega) ?_
      show dw_ok (pr_X12_sick K) 138 0 0 [some (.ref 404), some (.int a1), some (.int a2), some (.int t), some (.int c)] [.int ((dw_up I 423 k ((I 423 k) + (1 : Int32))) 424 (c).toInt.toNat), .int ((I 423 k) + (1 : Int32)), .int c, .ref 424] (n, SH1, (dw_up I 423 k ((I 423 k) + (1 : Int32))), J)
      rw [hcn]
      show dw_ok (pr_X12_sick K) 138 0 0 [some (.ref 404), some (.int a1), some (.int a2), some (.int t), some (.int c)] [.int ((dw_up I 423 k ((I 423 k) + (1 : Int32))) 424 k), .int ((I 423 k) + (1 : Int32)), .int c, .ref 424] (n, SH1, (dw_up I 423 k ((I 423 k) + (1 : Int32))), J)
      rw [show ((dw_up I 423 k ((I 423 k) + (1 : Int32))) 424 k) = (I 424 k) from (up_ne (Or.inl (by decide)))]
      refine q_icmp (c := 5) rfl (by decide) (fun y7 => ?_) (fun y7 => ?_)
      · have y7 : (((I 423 k) + (1 : Int32))).toInt ≤ ((I 424 k)).toInt := y7
        refine q_ald rfl rfl ?_
        refine q_getr rfl sk_404 sr_404_44 ?_
        refine q_ild rfl rfl ?_
        refine q_xald rfl (Or.inl rfl) sk_424 sn_424 (by omega) (by omega) ?_
        show dw_ok (pr_X12_sick K) 158 0 0 [some (.ref 404), some (.int a1), some (.int a2), some (.int t), some (.int c)] [.int ((dw_up I 423 k ((I 423 k) + (1 : Int32))) 424 (c).toInt.toNat), .int c, .ref 424] (n, SH1, (dw_up I 423 k ((I 423 k) + (1 : Int32))), J)
        rw [hcn]
        show dw_ok (pr_X12_sick K) 158 0 0 [some (.ref 404), some (.int a1), some (.int a2), some (.int t), some (.int c)] [.int ((dw_up I 423 k ((I 423 k) + (1 : Int32))) 424 k), .int c, .ref 424] (n, SH1, (dw_up I 423 k ((I 423 k) + (1 : Int32))), J)
        rw [show ((dw_up I 423 k ((I 423 k) + (1 : Int32))) 424 k) = (I 424 k) from (up_ne (Or.inl (by decide)))]
        refine q_iast rfl sk_424 sn_424 (by omega) (by omega) ?_
        show dw_ok (pr_X12_sick K) 159 0 0 [some (.ref 404), some (.int a1), some (.int a2), some (.int t), some (.int c)] [] (n, SH1, (dw_up (dw_up I 423 k ((I 423 k) + (1 : Int32))) 424 (c).toInt.toNat (I 424 k)), J)
        rw [hcn]
        refine q_inc rfl rfl rfl ?_
        show dw_ok (pr_X12_sick K) 162 0 0 [some (.ref 404), some (.int a1), some (.int a2), some (.int t), some (.int (c + 1))] [] (n, SH1, (dw_up (dw_up I 423 k ((I 423 k) + (1 : Int32))) 424 k (I 424 k)), J)
        show dw_ok (pr_X12_sick K) 162 0 0 [some (.ref 404), some (.int a1), some (.int a2), some (.int t), some (.int (c + 1))] [] (n, SH1, (dw_up (dw_up I 423 k ((I 423 k) + (1 : Int32))) 424 k (I 424 k)), J)
        obtain ⟨cx, hcx⟩ : ∃ z, z = (c + 1) := ⟨_, rfl⟩
        rw [← hcx]
        have ecx : cx.toInt = ((k + 1 : Nat) : Int) := by rw [hcx]; exact ix_1 hc (by omega)
        refine q_goto rfl ?_
        have g1 : ((I 423 k) + (1 : Int32)) = spA (I0 417 k) (I0 423 k) := by rw [spA_y (by omega), ← b1]
        have g2 : (I 424 k) = spB (I0 417 k) (I0 423 k) (I0 424 k) := by rw [spB_y (by omega), ← b1, ← b2, fmx_l y7]
        refine ih (k + 1) cx (dw_up (dw_up I 423 k ((I 423 k) + (1 : Int32))) 424 k (I 424 k)) (by omega) ecx (fun a q1 q2 => (up_row q2).trans ((up_row q1).trans (hfr a q1 q2))) (fun j hj => ?_) (fun j hj => ?_)
        · by_cases e : j = k
          · rw [e]
            exact ⟨(congrFun (up_row (by decide)) _).trans (up_same.trans g1), up_same.trans g2⟩
          · obtain ⟨z1, z2⟩ := h1 j (by omega)
            exact ⟨(congrFun (up_row (by decide)) _).trans ((up_fld e).trans z1), (up_fld e).trans ((congrFun (up_row (by decide)) _).trans z2)⟩
        · have e : j ≠ k := by omega
          obtain ⟨z1, z2⟩ := h2 j (by omega)
          exact ⟨(congrFun (up_row (by decide)) _).trans ((up_fld e).trans z1), (up_fld e).trans ((congrFun (up_row (by decide)) _).trans z2)⟩
      · have y7 : ((I 424 k)).toInt < (((I 423 k) + (1 : Int32))).toInt := y7
        refine q_ald rfl rfl ?_
        refine q_getr rfl sk_404 sr_404_43 ?_
        refine q_ild rfl rfl ?_
        refine q_xald rfl (Or.inl rfl) sk_423 sn_423 (by omega) (by omega) ?_
        show dw_ok (pr_X12_sick K) 148 0 0 [some (.ref 404), some (.int a1), some (.int a2), some (.int t), some (.int c)] [.int ((dw_up I 423 k ((I 423 k) + (1 : Int32))) 423 (c).toInt.toNat), .int c, .ref 424] (n, SH1, (dw_up I 423 k ((I 423 k) + (1 : Int32))), J)
        rw [hcn]
        show dw_ok (pr_X12_sick K) 148 0 0 [some (.ref 404), some (.int a1), some (.int a2), some (.int t), some (.int c)] [.int ((dw_up I 423 k ((I 423 k) + (1 : Int32))) 423 k), .int c, .ref 424] (n, SH1, (dw_up I 423 k ((I 423 k) + (1 : Int32))), J)
        rw [show ((dw_up I 423 k ((I 423 k) + (1 : Int32))) 423 k) = ((I 423 k) + (1 : Int32)) from up_same]
        refine q_goto rfl ?_
        refine q_iast rfl sk_424 sn_424 (by omega) (by omega) ?_
        show dw_ok (pr_X12_sick K) 159 0 0 [some (.ref 404), some (.int a1), some (.int a2), some (.int t), some (.int c)] [] (n, SH1, (dw_up (dw_up I 423 k ((I 423 k) + (1 : Int32))) 424 (c).toInt.toNat ((I 423 k) + (1 : Int32))), J)
        rw [hcn]
        refine q_inc rfl rfl rfl ?_
        show dw_ok (pr_X12_sick K) 162 0 0 [some (.ref 404), some (.int a1), some (.int a2), some (.int t), some (.int (c + 1))] [] (n, SH1, (dw_up (dw_up I 423 k ((I 423 k) + (1 : Int32))) 424 k ((I 423 k) + (1 : Int32))), J)
        show dw_ok (pr_X12_sick K) 162 0 0 [some (.ref 404), some (.int a1), some (.int a2), some (.int t), some (.int (c + 1))] [] (n, SH1, (dw_up (dw_up I 423 k ((I 423 k) + (1 : Int32))) 424 k ((I 423 k) + (1 : Int32))), J)
        obtain ⟨cx, hcx⟩ : ∃ z, z = (c + 1) := ⟨_, rfl⟩
        rw [← hcx]
        have ecx : cx.toInt = ((k + 1 : Nat) : Int) := by rw [hcx]; exact ix_1 hc (by omega)
        refine q_goto rfl ?_
        have g1 : ((I 423 k) + (1 : Int32)) = spA (I0 417 k) (I0 423 k) := by rw [spA_y (by omega), ← b1]
        have g2 : ((I 423 k) + (1 : Int32)) = spB (I0 417 k) (I0 423 k) (I0 424 k) := by rw [spB_y (by omega), ← b1, ← b2, fmx_r y7]
        refine ih (k + 1) cx (dw_up (dw_up I 423 k ((I 423 k) + (1 : Int32))) 424 k ((I 423 k) + (1 : Int32))) (by omega) ecx (fun a q1 q2 => (up_row q2).trans ((up_row q1).trans (hfr a q1 q2))) (fun j hj => ?_) (fun j hj => ?_)
        · by_cases e : j = k
          · rw [e]
            exact ⟨(congrFun (up_row (by decide)) _).trans (up_same.trans g1), up_same.trans g2⟩
          · obtain ⟨z1, z2⟩ := h1 j (by omega)
            exact ⟨(congrFun (up_row (by decide)) _).trans ((up_fld e).trans z1), (up_fld e).trans ((congrFun (up_row (by decide)) _).trans z2)⟩
        · have e : j ≠ k := by omega
          obtain ⟨z1, z2⟩ := h2 j (by omega)
          exact ⟨(congrFun (up_row (by decide)) _).trans ((up_fld e).trans z1), (up_fld e).trans ((congrFun (up_row (by decide)) _).trans z2)⟩
set_option maxRecDepth 8000 in
theorem mso_loop {n : Nat} {J : Nat → Nat → Int64} {K : dw_K} {R S : Nat → Int32} {a1 a2 : Int32} (hG : GOK R) (hS : NOK S)
    (hk : ∀ (t : Int32) (v : Option Value) (I' : Nat → Nat → Int32), I' 406 = R → (∀ c, c < Nn R → I' 423 c = (wkR R S c 144).2.2.2.1 ∧ I' 424 c = (wkR R S c 144).2.2.2.2.1) → dw_ok (pr_X12_sick K) 171 0 0 [some (.ref 404), some (.int a1), some (.int a2), some (.int t), v] [] (n, SH1, I', J)) :
    ∀ (f k : Nat) (t : Int32) (v : Option Value) (I : Nat → Nat → Int32), k + f = 144 → t.toInt = k → I 406 = R → (∀ c, c < Nn R → I 423 c = (wkR R S c k).2.2.2.1 ∧ I 424 c = (wkR R S c k).2.2.2.2.1) → MSK I (Nn R) 0 (fun _ => gC R) (gT S) (g0S R S) 0 k → dw_ok (pr_X12_sick K) 64 0 0 [some (.ref 404), some (.int a1), some (.int a2), some (.int t), v] [] (n, SH1, I, J) := by
  have cm1 : (-1 : Int32).toInt = -1 := rfl
  have k0 : (0 : Int32).toInt = 0 := rfl
  have k1 : (1 : Int32).toInt = 1 := rfl
  have hN9 := (gok_N hG).2
  intro f
  induction f with
  | zero =>
    intro k t v I hf ht hR hT hM
    obtain rfl : k = 144 := by omega
    refine q_ild rfl rfl ?_
    refine q_ic rfl ?_
    refine q_icmp (c := 3) rfl (by decide) (fun y1 => ?_) (fun h => absurd (show (t).toInt < (144 : Int) from h) (by omega))
    have y1 : (144 : Int) ≤ (t).toInt := y1
    exact hk t v I hR hT
  | succ f ih =>
    intro k t v I hf ht hR hT hM
    refine q_ild rfl rfl ?_
    refine q_ic rfl ?_
    refine q_icmp (c := 3) rfl (by decide) (fun h => absurd (show (144 : Int) ≤ (t).toInt from h) (by omega)) (fun y2 => ?_)
    have y2 : (t).toInt < (144 : Int) := y2
    refine q_ald rfl rfl ?_
    refine q_ild rfl rfl ?_
    refine q_callV (as := [.int t]) (rest := []) rfl rfl sk_404 rfl (Nat.le_of_ble_eq_true rfl) ?_
    refine v_mstepR (pur_0 hG hS) hM (by omega) (by omega) (fun I1 g1 g2 hM1 => ?_)
    show dw_ok (pr_X12_sick K) 76 0 0 [some (.ref 404), some (.int a1), some (.int a2), some (.int t), v] [] (n, SH1, I1, J)
    have eI1 : I1 406 = R := (g1 406 (by decide) (by decide) (by decide)).trans hR
    show dw_ok (pr_X12_sick K) 76 0 0 [some (.ref 404), some (.int a1), some (.int a2), some (.int t), v] [] (n, SH1, I1, J)
    refine q_ic rfl ?_
    refine q_ist rfl rfl ?_
    show dw_ok (pr_X12_sick K) 79 0 0 [some (.ref 404), some (.int a1), some (.int a2), some (.int t), some (.int (0 : Int32))] [] (n, SH1, I1, J)
    have b3 : ∀ j, I1 423 j = I 423 j := fun j => congrFun (g1 423 (by decide) (by decide) (by decide)) j
    have b4 : ∀ j, I1 424 j = I 424 j := fun j => congrFun (g1 424 (by decide) (by decide) (by decide)) j
    refine msi_loop (I0 := I1) eI1 hG (fun j hj => by rw [b4, (hT j hj).2]; exact (wk_f (wa := wAt R S j) (wm := wMt R S j) k (by omega)).2.2.2) (fun c I2 r1 r2 => ?_) (Nn R) 0 0 I1 (by omega) rfl (fun _ _ _ => rfl) (fun j hj => absurd hj (Nat.not_lt_zero j)) (fun _ _ => ⟨rfl, rfl⟩)
    show dw_ok (pr_X12_sick K) 165 0 0 [some (.ref 404), some (.int a1), some (.int a2), some (.int t), some (.int c)] [] (n, SH1, I2, J)
    refine q_inc rfl rfl rfl ?_
    show dw_ok (pr_X12_sick K) 168 0 0 [some (.ref 404), some (.int a1), some (.int a2), some (.int (t + 1)), some (.int c)] [] (n, SH1, I2, J)
    show dw_ok (pr_X12_sick K) 168 0 0 [some (.ref 404), some (.int a1), some (.int a2), some (.int (t + 1)), some (.int c)] [] (n, SH1, I2, J)
    obtain ⟨tx, htx⟩ : ∃ z, z = (t + 1) := ⟨_, rfl⟩
    rw [← htx]
    have etx : tx.toInt = ((k + 1 : Nat) : Int) := by rw [htx]; exact ix_1 ht (by omega)
    refine q_goto rfl ?_
    refine ih (k + 1) tx _ I2 (by omega) etx ((r1 406 (by decide) (by decide)).trans eI1) (fun c hc => ?_) (msk_fr (fun a _ _ => r1 a (by omega) (by omega)) hM1)
    obtain ⟨z1, z2⟩ := r2 c hc
    obtain ⟨y1, y2⟩ := hT c hc
    have ea : I1 417 c = wAt R S c k := hM1.2.2.1.2.1 c hc
    rw [z1, z2, ea, b3, b4, y1, y2]
    exact ⟨(wk_sp (wa := wAt R S c) (wm := wMt R S c)).1.symm, (wk_sp (wa := wAt R S c) (wm := wMt R S c)).2.symm⟩
set_option maxRecDepth 8000 in
theorem msk_loop {n : Nat} {I : Nat → Nat → Int32} {J : Nat → Nat → Int64} {K : dw_K} {a1 l : Int32} {R : Nat → Int32} (e1 : I 406 = R) (hG : GOK R)
    (hk : ∀ v : Int32, v.toInt = wcF (I 424) l (Nn R) → K (some (.int v)) (n, SH1, I, J)) :
    ∀ (f k : Nat) (v c : Int32), k + f = Nn R → c.toInt = k → v.toInt = wcF (I 424) l k → dw_ok (pr_X12_sick K) 176 0 0 [some (.ref 404), some (.int a1), some (.int l), some (.int v), some (.int c)] [] (n, SH1, I, J) := by
  obtain ⟨hN, hN9⟩ := gok_N hG
  have k1 : (1 : Int32).toInt = 1 := rfl
  have k0 : (0 : Int32).toInt = 0 := rfl
  intro f
  induction f with
  | zero =>
    intro k v c hf hc hv
    refine q_ild rfl rfl ?_
    refine q_ald rfl rfl ?_
    refine q_callV (as := []) (rest := [.int c]) rfl rfl sk_404 rfl (Nat.le_of_ble_eq_true rfl) ?_
    refine v_mcells ?_
    show dw_ok (pr_X12_sick K) 182 0 0 [some (.ref 404), some (.int a1), some (.int l), some (.int v), some (.int c)] [.int (I 406 0 * I 406 1), .int c] (n, SH1, I, J)
    rw [show I 406 = R from e1]
    obtain ⟨nv1, hnv1⟩ : ∃ z, z = R 0 * R 1 := ⟨_, rfl⟩
    rw [← hnv1]
    have env1 : nv1.toInt = Nn R := by rw [hnv1]; exact hN
    show dw_ok (pr_X12_sick K) 182 0 0 [some (.ref 404), some (.int a1), some (.int l), some (.int v), some (.int c)] [.int nv1, .int c] (n, SH1, I, J)
    refine q_icmp (c := 3) rfl (by decide) (fun y2 => ?_) (fun h => absurd (show (c).toInt < (nv1).toInt from h) (by omega))
    have y2 : (nv1).toInt ≤ (c).toInt := y2
    refine q_ild rfl rfl ?_
    have kN : k = Nn R := by omega
    rw [kN] at hv
    exact q_iret rfl (hk v hv)
  | succ f ih =>
    intro k v c hf hc hv
    have hcn : c.toInt.toNat = k := by omega
    have wl := wc_le (W := I 424) (l := l) k
    refine q_ild rfl rfl ?_
    refine q_ald rfl rfl ?_
    refine q_callV (as := []) (rest := [.int c]) rfl rfl sk_404 rfl (Nat.le_of_ble_eq_true rfl) ?_
    refine v_mcells ?_
    show dw_ok (pr_X12_sick K) 182 0 0 [some (.ref 404), some (.int a1), some (.int l), some (.int v), some (.int c)] [.int (I 406 0 * I 406 1), .int c] (n, SH1, I, J)
    rw [show I 406 = R from e1]
    obtain ⟨nv3, hnv3⟩ : ∃ z, z = R 0 * R 1 := ⟨_, rfl⟩
    rw [← hnv3]
    have env3 : nv3.toInt = Nn R := by rw [hnv3]; exact hN
    show dw_ok (pr_X12_sick K) 182 0 0 [some (.ref 404), some (.int a1), some (.int l), some (.int v), some (.int c)] [.int nv3, .int c] (n, SH1, I, J)
    refine q_icmp (c := 3) rfl (by decide) (fun h => absurd (show (nv3).toInt ≤ (c).toInt from h) (by omega)) (fun y4 => ?_)
    have y4 : (c).toInt < (nv3).toInt := y4
    refine q_ild rfl rfl ?_
    refine q_ald rfl rfl ?_
    refine q_getr rfl sk_404 sr_404_44 ?_
    refine q_ild rfl rfl ?_
    refine q_xald rfl (Or.inl rfl) sk_424 sn_424 (by omega) (by omega) ?_
    show dw_ok (pr_X12_sick K) 193 0 0 [some (.ref 404), some (.int a1), some (.int l), some (.int v), some (.int c)] [.int (I 424 (c).toInt.toNat), .int v] (n, SH1, I, J)
    rw [hcn]
    refine q_ild rfl rfl ?_
    refine q_icmp (c := 2) rfl (by decide) (fun y5 => ?_) (fun y5 => ?_)
    · have y5 : ((I 424 k)).toInt < (l).toInt := y5
      refine q_ic rfl ?_
      refine q_add rfl ?_
      refine q_ist rfl rfl ?_
      show dw_ok (pr_X12_sick K) 204 0 0 [some (.ref 404), some (.int a1), some (.int l), some (.int (v + (0 : Int32))), some (.int c)] [] (n, SH1, I, J)
      refine q_inc rfl rfl rfl ?_
      show dw_ok (pr_X12_sick K) 207 0 0 [some (.ref 404), some (.int a1), some (.int l), some (.int (v + (0 : Int32))), some (.int (c + 1))] [] (n, SH1, I, J)
      show dw_ok (pr_X12_sick K) 207 0 0 [some (.ref 404), some (.int a1), some (.int l), some (.int (v + (0 : Int32))), some (.int (c + 1))] [] (n, SH1, I, J)
      obtain ⟨cx, hcx⟩ : ∃ z, z = (c + 1) := ⟨_, rfl⟩
      rw [← hcx]
      have ecx : cx.toInt = ((k + 1 : Nat) : Int) := by rw [hcx]; exact ix_1 hc (by omega)
      refine q_goto rfl ?_
      refine ih (k + 1) (v + (0 : Int32)) cx (by omega) ecx ?_
      rw [i_add (by rw [hv, k0]; omega) (by rw [hv, k0]; omega), hv, k0]
      show _ = ((wcF (I 424) l k + (if l.toInt ≤ (I 424 k).toInt then 1 else 0) : Nat) : Int)
      rw [if_neg (by omega)]
      omega
    · have y5 : (l).toInt ≤ ((I 424 k)).toInt := y5
      refine q_ic rfl ?_
      refine q_goto rfl ?_
      refine q_add rfl ?_
      refine q_ist rfl rfl ?_
      show dw_ok (pr_X12_sick K) 204 0 0 [some (.ref 404), some (.int a1), some (.int l), some (.int (v + (1 : Int32))), some (.int c)] [] (n, SH1, I, J)
      refine q_inc rfl rfl rfl ?_
      show dw_ok (pr_X12_sick K) 207 0 0 [some (.ref 404), some (.int a1), some (.int l), some (.int (v + (1 : Int32))), some (.int (c + 1))] [] (n, SH1, I, J)
      show dw_ok (pr_X12_sick K) 207 0 0 [some (.ref 404), some (.int a1), some (.int l), some (.int (v + (1 : Int32))), some (.int (c + 1))] [] (n, SH1, I, J)
      obtain ⟨cx, hcx⟩ : ∃ z, z = (c + 1) := ⟨_, rfl⟩
      rw [← hcx]
      have ecx : cx.toInt = ((k + 1 : Nat) : Int) := by rw [hcx]; exact ix_1 hc (by omega)
      refine q_goto rfl ?_
      refine ih (k + 1) (v + (1 : Int32)) cx (by omega) ecx ?_
      rw [i_add (by rw [hv, k1]; omega) (by rw [hv, k1]; omega), hv, k1]
      show _ = ((wcF (I 424) l k + (if l.toInt ≤ (I 424 k).toInt then 1 else 0) : Nat) : Int)
      rw [if_pos (by omega)]
      omega
set_option maxRecDepth 8000 in
set_option maxHeartbeats 4000000 in
theorem v_msick {n : Nat} {I : Nat → Nat → Int32} {J : Nat → Nat → Int64} {K : dw_K} {R : Nat → Int32} (hR : I 406 = R) (hG : GOK R) {a1 a2 : Int32} (hN : okS R a1 → NOK (nX R a1)) (hk : ∀ (w : Int32) (I' : Nat → Nat → Int32), w.toInt = aSick R a1 a2 → K (some (.int w)) (n, SH1, I', J)) : t_X12_sick [.ref 404, .int a1, .int a2] (n, SH1, I, J) K := by
  have cm1 : (-1 : Int32).toInt = -1 := rfl
  have k0 : (0 : Int32).toInt = 0 := rfl
  have k1 : (1 : Int32).toInt = 1 := rfl
  have k2 : (2 : Int32).toInt = 2 := rfl
  refine q_body (Nat.le_of_ble_eq_true rfl) ?_
  refine q_ald rfl rfl ?_
  refine q_ic rfl ?_
  refine q_puti rfl sk_404 ?_
  show dw_ok (pr_X12_sick K) 5 0 0 [some (.ref 404), some (.int a1), some (.int a2), none, none] [] (n, SH1, (dw_up I 404 0 (0 : Int32)), J)
  refine q_ald rfl rfl ?_
  refine q_ild rfl rfl ?_
  refine q_callV (as := [.int a1]) (rest := []) rfl rfl sk_404 rfl (Nat.le_of_ble_eq_true rfl) ?_
  obtain ⟨I1, hI1⟩ : ∃ X, X = (dw_up I 404 0 (0 : Int32)) := ⟨_, rfl⟩
  rw [← hI1]
  have eI1 : I1 406 = R := by rw [hI1]; exact ((up_row (by decide)).trans (hR))
  refine v_isNight (fun w_ oS => ?_)
  rcases oS with ⟨rfl, oS⟩ | ⟨rfl, oS⟩
  · show dw_ok (pr_X12_sick K) 10 0 0 [some (.ref 404), some (.int a1), some (.int a2), none, none] [.int (1 : Int32)] (n, SH1, I1, J)
    refine q_if (c := 0) rfl (by decide) (fun h => absurd (show (1 : Int) = 0 from h) (by decide)) (fun y2 => ?_)
    have y2 : (1 : Int) ≠ 0 := y2
    refine q_ild rfl rfl ?_
    refine q_ic rfl ?_
    refine q_ic rfl ?_
    refine q_callS (as := [.int a2, .int (1 : Int32), .int (144 : Int32)]) (rest := []) rfl rfl rfl rfl ?_
    refine v_isIn (fun w_ oI => ?_)
    rcases oI with ⟨rfl, oI⟩ | ⟨rfl, oI⟩
    · have oI : (1 ≤ a2.toInt ∧ a2.toInt ≤ 144) := oI
      show dw_ok (pr_X12_sick K) 21 0 0 [some (.ref 404), some (.int a1), some (.int a2), none, none] [.int (1 : Int32)] (n, SH1, I1, J)
      refine q_if (c := 1) rfl (by decide) (fun y3 => ?_) (fun h => absurd (show (1 : Int) = 0 from h) (by decide))
      have y3 : (1 : Int) ≠ 0 := y3
      refine q_ald rfl rfl ?_
      refine q_ild rfl rfl ?_
      refine q_ic rfl ?_
      refine q_callV (as := [.int a1, .int (0 : Int32)]) (rest := []) rfl rfl sk_404 rfl (Nat.le_of_ble_eq_true rfl) ?_
      rw [eI1] at oS
      refine v_mstartR (st := 0) eI1 hG oS (hN oS) rfl (fun I9 g0 _ _ hM _ => ?_)
      have e9 : I9 406 = R := (g0 406 (by decide) (by decide)).trans eI1
      show dw_ok (pr_X12_sick K) 32 0 0 [some (.ref 404), some (.int a1), some (.int a2), none, none] [] (n, SH1, I9, J)
      refine q_ic rfl ?_
      refine q_ist rfl rfl ?_
      show dw_ok (pr_X12_sick K) 34 0 0 [some (.ref 404), some (.int a1), some (.int a2), some (.int (0 : Int32)), none] [] (n, SH1, I9, J)
      refine msc_loop (I0 := I9) e9 hG (fun c I2 q1 q2 => ?_) (Nn R) 0 0 I9 (by omega) rfl (fun _ _ _ => rfl) (fun j hj => absurd hj (Nat.not_lt_zero j))
      show dw_ok (pr_X12_sick K) 62 0 0 [some (.ref 404), some (.int a1), some (.int a2), some (.int c), none] [] (n, SH1, I2, J)
      have e2 : I2 406 = R := (q1 406 (by decide) (by decide)).trans e9
      refine q_ic rfl ?_
      refine q_ist rfl rfl ?_
      show dw_ok (pr_X12_sick K) 64 0 0 [some (.ref 404), some (.int a1), some (.int a2), some (.int (0 : Int32)), none] [] (n, SH1, I2, J)
      refine mso_loop hG (hN oS) (fun t v I3 e3 hT3 => ?_) 144 0 0 _ I2 rfl rfl e2 (fun c hc => q2 c hc) (msk_fr (fun a _ _ => q1 a (by omega) (by omega)) hM)
      show dw_ok (pr_X12_sick K) 171 0 0 [some (.ref 404), some (.int a1), some (.int a2), some (.int t), v] [] (n, SH1, I3, J)
      refine q_ic rfl ?_
      refine q_ist rfl rfl ?_
      show dw_ok (pr_X12_sick K) 173 0 0 [some (.ref 404), some (.int a1), some (.int a2), some (.int (0 : Int32)), v] [] (n, SH1, I3, J)
      refine q_ic rfl ?_
      refine q_ist rfl rfl ?_
      show dw_ok (pr_X12_sick K) 176 0 0 [some (.ref 404), some (.int a1), some (.int a2), some (.int (0 : Int32)), some (.int (0 : Int32))] [] (n, SH1, I3, J)
      exact msk_loop e3 hG (fun v hv => hk v I3 (by
        unfold aSick
        rw [if_pos ⟨oS, oI⟩, hv, wcF_eq2 (g := lgR R (nX R a1)) (Nn R) (fun c hc => (hT3 c hc).2)])) (Nn R) 0 0 0 (by omega) rfl rfl
    · have oI : ¬ (1 ≤ a2.toInt ∧ a2.toInt ≤ 144) := oI
      show dw_ok (pr_X12_sick K) 21 0 0 [some (.ref 404), some (.int a1), some (.int a2), none, none] [.int (0 : Int32)] (n, SH1, I1, J)
      refine q_if (c := 1) rfl (by decide) (fun h => absurd (show (0 : Int) ≠ 0 from h) (by decide)) (fun y4 => ?_)
      have y4 : (0 : Int) = 0 := y4
      refine q_ic rfl ?_
      refine q_iret rfl (hk _ _ ?_)
      unfold aSick
      rw [if_neg (fun q => oI q.2)]
      exact cm1
  · show dw_ok (pr_X12_sick K) 10 0 0 [some (.ref 404), some (.int a1), some (.int a2), none, none] [.int (0 : Int32)] (n, SH1, I1, J)
    refine q_if (c := 0) rfl (by decide) (fun y5 => ?_) (fun h => absurd (show (0 : Int) ≠ 0 from h) (by decide))
    have y5 : (0 : Int) = 0 := y5
    refine q_ic rfl ?_
    refine q_iret rfl (hk _ _ ?_)
    unfold aSick
    rw [if_neg (by rw [eI1] at oS; exact fun q => oS q.1)]
    exact cm1
