theorem law_ok {L : Nat} {xs : Nat → Int32} (hL : L ≤ 6) : dw_ok (pr_law L xs) 0 600002 7302232 (dw_pad 7 (dw_inl [.ref 1000000])) [] dw_s0 := by
  refine law_a ?_
  by_cases h : L < 6
  · exact law_s h
  · have e : L = 6 := by omega
    subst e
    refine law_b (fun k t ht => ?_)
    match k, ht with
    | 0, ht => have e : 224 = t := Option.some.inj ht; subst e; exact law_c0
    | 1, ht => have e : 297 = t := Option.some.inj ht; subst e; exact law_c1
    | 2, ht => have e : 322 = t := Option.some.inj ht; subst e; exact law_c2
    | 3, ht => have e : 335 = t := Option.some.inj ht; subst e; exact law_c3
    | 4, ht => have e : 348 = t := Option.some.inj ht; subst e; exact law_c4
    | 5, ht => have e : 428 = t := Option.some.inj ht; subst e; exact law_c5
    | 6, ht => have e : 453 = t := Option.some.inj ht; subst e; exact law_c6
    | 7, ht => have e : 502 = t := Option.some.inj ht; subst e; exact law_c7
    | 8, ht => have e : 527 = t := Option.some.inj ht; subst e; exact law_c8
    | 9, ht => have e : 552 = t := Option.some.inj ht; subst e; exact law_c9
    | 10, ht => have e : 632 = t := Option.some.inj ht; subst e; exact law_c10
    | 11, ht => have e : 657 = t := Option.some.inj ht; subst e; exact law_c11
    | 12, ht => have e : 670 = t := Option.some.inj ht; subst e; exact law_c12
    | 13, ht => have e : 695 = t := Option.some.inj ht; subst e; exact law_c13
    | 14, ht => have e : 720 = t := Option.some.inj ht; subst e; exact law_c14
    | 15, ht => have e : 781 = t := Option.some.inj ht; subst e; exact law_c15
    | 16, ht => have e : 830 = t := Option.some.inj ht; subst e; exact law_c16
    | 17, ht => have e : 879 = t := Option.some.inj ht; subst e; exact law_c17
    | 18, ht => have e : 928 = t := Option.some.inj ht; subst e; exact law_c18
    | 19, ht => have e : 977 = t := Option.some.inj ht; subst e; exact law_c19
    | 20, ht => have e : 1026 = t := Option.some.inj ht; subst e; exact law_c20
    | 21, ht => have e : 1063 = t := Option.some.inj ht; subst e; exact law_c21
    | 22, ht => have e : 1112 = t := Option.some.inj ht; subst e; exact law_c22
    | 23, ht => have e : 1173 = t := Option.some.inj ht; subst e; exact law_c23
    | 24, ht => have e : 1234 = t := Option.some.inj ht; subst e; exact law_c24
    | 25, ht => have e : 1271 = t := Option.some.inj ht; subst e; exact law_c25
    | 26, ht => have e : 1308 = t := Option.some.inj ht; subst e; exact law_c26
    | 27, ht => have e : 1321 = t := Option.some.inj ht; subst e; exact law_c27
    | 28, ht => have e : 1346 = t := Option.some.inj ht; subst e; exact law_c28
    | 29, ht => have e : 1407 = t := Option.some.inj ht; subst e; exact law_c29
    | 30, ht => have e : 1432 = t := Option.some.inj ht; subst e; exact law_c30
    | 31, ht => have e : 1481 = t := Option.some.inj ht; subst e; exact law_c31
    | 32, ht => have e : 1518 = t := Option.some.inj ht; subst e; exact law_c32
    | 33, ht => have e : 1567 = t := Option.some.inj ht; subst e; exact law_c33
    | 34, ht => have e : 1640 = t := Option.some.inj ht; subst e; exact law_c34
    | 35, ht => have e : 1713 = t := Option.some.inj ht; subst e; exact law_c35
    | 36, ht => have e : 1750 = t := Option.some.inj ht; subst e; exact law_c36
    | 37, ht => have e : 1787 = t := Option.some.inj ht; subst e; exact law_c37
    | 38, ht => have e : 1860 = t := Option.some.inj ht; subst e; exact law_c38
    | 39, ht => have e : 1885 = t := Option.some.inj ht; subst e; exact law_c39
    | 40, ht => have e : 1910 = t := Option.some.inj ht; subst e; exact law_c40
    | 41, ht => have e : 1935 = t := Option.some.inj ht; subst e; exact law_c41
    | n + 42, ht => exact absurd (List.getElem?_eq_some_iff.mp ht).1 (by show ¬ n + 42 < 42; omega)
theorem whole_start {p : Program} {e : Env} {s : State} {m : MethodId} {below : List Frame} {meth : Method} {c : Code} (l : Launch) (hflags : l.flags = flags0) {b L : Nat} {xs : Nat → Int32} (hL : L ≤ 6) (C0 : lw_At p s m meth c b L xs) : W p l e room_1 s m #[Value.ref b] below meth c s.heap [] 0 0 (lw_Z below #[Value.ref b] s) (entryFrame m ([Value.ref b] : List Value).toArray 7) := by
  exact dw_start l hflags C0 (law_ok hL)
