section
/-! ===== the two calls that throw ===== -/
section
variable {pr : Nat → dw_Op} {pc bc bs nx : Nat} {ls : dw_L} {st : List Value} {μ : dw_S}
theorem q_sald {L : Nat} {xs : Nat → Int32} {j : Int32} (ho : pr pc = o_sald L xs nx) (h0 : 0 ≤ j.toInt) (h1 : j.toInt < L) (k : dw_ok pr nx bc bs ls (.int (xs j.toInt.toNat) :: st) μ) : dw_ok pr pc bc bs ls (.int j :: .ref 1000000 :: st) μ :=
  dw_ok.step (by
    rw [ho]
    show (if ¬ j < 0 ∧ j.toNatClampNeg < L then dw_ok pr nx bc bs ls (.int (xs j.toNatClampNeg) :: st) μ else False)
    rw [if_pos ⟨dx_nlt h0, by rw [dx_tn]; omega⟩]
    exact k)
theorem q_slen {L : Nat} (ho : pr pc = o_slen L nx) (k : dw_ok pr nx bc bs ls (.int (Int32.ofNat L) :: st) μ) : dw_ok pr pc bc bs ls (.ref 1000000 :: st) μ := dw_ok.step (by rw [ho]; exact k)
theorem q_lret (ho : pr pc = o_lret) : dw_ok pr pc bc bs ls [.int 1] μ := dw_ok.step (by rw [ho]; show (1 : Int32) = 1; rfl)
theorem q_tab {lo hi : Int} {tgs : List Nat} {df : Nat} {x : Int32} (ho : pr pc = o_tab lo hi tgs df) (k0 : x.toInt < lo ∨ hi < x.toInt → dw_ok pr df bc bs ls st μ) (k1 : ¬ (x.toInt < lo ∨ hi < x.toInt) → ∃ tg, tgs[(x.toInt - lo).toNat]? = some tg ∧ dw_ok pr tg bc bs ls st μ) : dw_ok pr pc bc bs ls (.int x :: st) μ :=
  dw_ok.step (by
    rw [ho]
    unfold o_tab
    simp only []
    by_cases h : x.toInt < lo ∨ hi < x.toInt
    · rw [if_pos h]; exact k0 h
    · rw [if_neg h]
      obtain ⟨tg, e, k⟩ := k1 h
      rw [e]
      exact k)
theorem q_alen {a : Nat} (ho : pr pc = o_alen nx) (h1 : ¬ (μ.2.1 a).1 = 999) (h2 : ¬ (μ.2.1 a).1 < 16) (k : dw_ok pr nx bc bs ls (.int (Int32.ofNat (μ.2.1 a).2.1) :: st) μ) : dw_ok pr pc bc bs ls (.ref a :: st) μ :=
  dw_ok.step (by
    rw [ho]
    unfold o_alen
    simp only []
    rw [if_pos ⟨h1, h2⟩]
    exact k)
theorem q_callV {ci k a : Nat} {T : dw_T} {as rest : List Value} (ho : pr pc = o_callV ci k 0 0 T nx) (h : dw_sp k st [] = (.ref a :: as, rest)) (h1 : (μ.2.1 a).1 = ci) (h2 : as.length + 1 = k) (h3 : dw_cats rest ≤ 8) (hT : T (.ref a :: as) μ (fun r μ' => dw_ok pr nx bc bs ls (r.toList ++ rest) μ')) : dw_ok pr pc bc bs ls st μ :=
  dw_ok.step (by rw [ho]; exact dw_callV h h1 h2 h3 (Nat.zero_le _) (Nat.zero_le _) hT)
theorem q_callS16 {k : Nat} {T : dw_T} {as rest : List Value} (ho : pr pc = o_callS k 1 6 T nx) (h : dw_sp k st [] = (as, rest)) (h2 : as.length = k) (h3 : dw_cats rest ≤ 8) (h4 : 1 ≤ bc) (h5 : 6 ≤ bs) (hT : T as μ (fun r μ' => dw_ok pr nx (bc - 1) (bs - 6) ls (r.toList ++ rest) μ')) : dw_ok pr pc bc bs ls st μ :=
  dw_ok.step (by
    rw [ho]
    unfold o_callS
    rw [h]
    show (if as.length = k ∧ dw_cats rest ≤ 8 ∧ 1 ≤ bc ∧ 6 ≤ bs then T as μ (fun r μ' => dw_ok pr nx (bc - 1) (bs - 6) ls (r.toList ++ rest) μ') else False)
    rw [if_pos ⟨h2, h3, h4, h5⟩]
    exact hT)
theorem q_callX {ci k mc ms a : Nat} {T : List Value → dw_S → dw_K → (dw_S → Prop) → Prop} {K : dw_K} {as rest : List Value} (ho : pr pc = o_callX ci k mc ms T K nx) (h : dw_sp k st [] = (.ref a :: as, rest)) (h1 : (μ.2.1 a).1 = ci) (h2 : as.length + 1 = k) (h3 : dw_cats rest ≤ 8) (h4 : mc ≤ bc) (h5 : ms ≤ bs) (hT : T (.ref a :: as) μ (fun r μ' => dw_ok pr nx (bc - mc) (bs - ms) ls (r.toList ++ rest) μ') (fun μ' => K (some (.int 1)) μ')) : dw_ok pr pc bc bs ls st μ :=
  dw_ok.step (by
    rw [ho]
    unfold o_callX
    rw [h]
    show (if (μ.2.1 a).1 = ci ∧ as.length + 1 = k ∧ dw_cats rest ≤ 8 ∧ mc ≤ bc ∧ ms ≤ bs then T (.ref a :: as) μ (fun r μ' => dw_ok pr nx (bc - mc) (bs - ms) ls (r.toList ++ rest) μ') (fun μ' => K (some (.int 1)) μ') else False)
    rw [if_pos ⟨h1, h2, h3, h4, h5⟩]
    exact hT)
theorem q_thr {n0 : Nat} {Kx : dw_S → Prop} (ho : pr pc = o_thr n0 Kx) (h1 : n0 ≤ μ.1) (h2 : 1 ≤ bc) (h3 : 6 ≤ bs) (h4 : dw_cats st ≤ 8) (k : ∀ n', μ.1 ≤ n' → Kx (n', μ.2)) : dw_ok pr pc bc bs ls st μ :=
  dw_ok.step (by
    rw [ho]
    unfold o_thr
    rw [if_pos ⟨h1, h2, h3, h4⟩]
    exact k)
theorem q_getz {ci j a : Nat} (ho : pr pc = o_getf ci j 3 nx) (hk : (μ.2.1 a).1 = ci) (k : dw_ok pr nx bc bs ls (.int (μ.2.2.1 a j) :: st) μ) : dw_ok pr pc bc bs ls (.ref a :: st) μ :=
  dw_ok.step (by
    rw [ho]
    show (if (μ.2.1 a).1 = ci then dw_fitI 3 (μ.2.2.1 a j) (dw_ok pr nx bc bs ls (.int (μ.2.2.1 a j) :: st) μ) else False)
    rw [if_pos hk]
    exact dx_fitI_ok k)
theorem q_i2l {x : Int32} (ho : pr pc = o_i2l nx) (k : dw_ok pr nx bc bs ls (.long x.toInt64 :: st) μ) : dw_ok pr pc bc bs ls (.int x :: st) μ := dw_ok.step (by rw [ho]; exact k)
theorem q_last {a n : Nat} {x : Int64} {i : Int32} (ho : pr pc = o_last nx) (hk : (μ.2.1 a).1 = 17) (hn : (μ.2.1 a).2.1 = n) (h0 : 0 ≤ i.toInt) (h1 : i.toInt < n) (k : dw_ok pr nx bc bs ls st (dw_sl μ a i.toInt.toNat x)) : dw_ok pr pc bc bs ls (.long x :: .int i :: .ref a :: st) μ :=
  dw_ok.step (by
    rw [ho]
    show (if (μ.2.1 a).1 = 17 then (if ¬ i < 0 ∧ i.toNatClampNeg < (μ.2.1 a).2.1 then dw_ok pr nx bc bs ls st (dw_sl μ a i.toNatClampNeg x) else False) else False)
    rw [if_pos hk, if_pos ⟨dx_nlt h0, by rw [dx_tn, hn]; omega⟩]
    exact k)
end
theorem shE (a : Nat) : (SH1 a).1 = (dx_ce a).k ∧ (SH1 a).2.1 = (dx_ce a).n ∧ ∀ j, (SH1 a).2.2 j = ((dx_ce a).rf[j]?).join := hEE.sh a
end
section
/-! ===== shapes by name ===== -/
theorem sk_0 : (SH1 0).1 = 11 := (shE 0).1.trans (by decide +kernel)
theorem sk_1 : (SH1 1).1 = 9 := (shE 1).1.trans (by decide +kernel)
theorem sk_2 : (SH1 2).1 = 16 := (shE 2).1.trans (by decide +kernel)
theorem sk_3 : (SH1 3).1 = 8 := (shE 3).1.trans (by decide +kernel)
theorem sk_4 : (SH1 4).1 = 0 := (shE 4).1.trans (by decide +kernel)
theorem sk_5 : (SH1 5).1 = 16 := (shE 5).1.trans (by decide +kernel)
theorem sk_6 : (SH1 6).1 = 16 := (shE 6).1.trans (by decide +kernel)
theorem sk_7 : (SH1 7).1 = 16 := (shE 7).1.trans (by decide +kernel)
theorem sk_8 : (SH1 8).1 = 16 := (shE 8).1.trans (by decide +kernel)
theorem sk_9 : (SH1 9).1 = 16 := (shE 9).1.trans (by decide +kernel)
theorem sk_10 : (SH1 10).1 = 22 := (shE 10).1.trans (by decide +kernel)
theorem sk_11 : (SH1 11).1 = 5 := (shE 11).1.trans (by decide +kernel)
theorem sk_12 : (SH1 12).1 = 20 := (shE 12).1.trans (by decide +kernel)
theorem sk_13 : (SH1 13).1 = 16 := (shE 13).1.trans (by decide +kernel)
theorem sk_14 : (SH1 14).1 = 16 := (shE 14).1.trans (by decide +kernel)
theorem sk_15 : (SH1 15).1 = 16 := (shE 15).1.trans (by decide +kernel)
theorem sk_16 : (SH1 16).1 = 16 := (shE 16).1.trans (by decide +kernel)
theorem sk_17 : (SH1 17).1 = 16 := (shE 17).1.trans (by decide +kernel)
theorem sk_18 : (SH1 18).1 = 16 := (shE 18).1.trans (by decide +kernel)
theorem sk_19 : (SH1 19).1 = 16 := (shE 19).1.trans (by decide +kernel)
theorem sk_20 : (SH1 20).1 = 16 := (shE 20).1.trans (by decide +kernel)
theorem sk_21 : (SH1 21).1 = 16 := (shE 21).1.trans (by decide +kernel)
theorem sk_22 : (SH1 22).1 = 16 := (shE 22).1.trans (by decide +kernel)
theorem sk_23 : (SH1 23).1 = 16 := (shE 23).1.trans (by decide +kernel)
theorem sk_24 : (SH1 24).1 = 16 := (shE 24).1.trans (by decide +kernel)
theorem sk_25 : (SH1 25).1 = 16 := (shE 25).1.trans (by decide +kernel)
theorem sk_26 : (SH1 26).1 = 16 := (shE 26).1.trans (by decide +kernel)
theorem sk_27 : (SH1 27).1 = 16 := (shE 27).1.trans (by decide +kernel)
theorem sk_28 : (SH1 28).1 = 16 := (shE 28).1.trans (by decide +kernel)
theorem sk_29 : (SH1 29).1 = 16 := (shE 29).1.trans (by decide +kernel)
theorem sk_30 : (SH1 30).1 = 16 := (shE 30).1.trans (by decide +kernel)
theorem sk_31 : (SH1 31).1 = 16 := (shE 31).1.trans (by decide +kernel)
theorem sk_32 : (SH1 32).1 = 16 := (shE 32).1.trans (by decide +kernel)
theorem sk_33 : (SH1 33).1 = 16 := (shE 33).1.trans (by decide +kernel)
theorem sk_34 : (SH1 34).1 = 16 := (shE 34).1.trans (by decide +kernel)
theorem sk_35 : (SH1 35).1 = 16 := (shE 35).1.trans (by decide +kernel)
theorem sk_36 : (SH1 36).1 = 16 := (shE 36).1.trans (by decide +kernel)
theorem sk_37 : (SH1 37).1 = 16 := (shE 37).1.trans (by decide +kernel)
theorem sk_38 : (SH1 38).1 = 16 := (shE 38).1.trans (by decide +kernel)
theorem sk_39 : (SH1 39).1 = 16 := (shE 39).1.trans (by decide +kernel)
theorem sk_40 : (SH1 40).1 = 16 := (shE 40).1.trans (by decide +kernel)
theorem sk_41 : (SH1 41).1 = 16 := (shE 41).1.trans (by decide +kernel)
theorem sk_42 : (SH1 42).1 = 16 := (shE 42).1.trans (by decide +kernel)
theorem sk_43 : (SH1 43).1 = 7 := (shE 43).1.trans (by decide +kernel)
theorem sk_44 : (SH1 44).1 = 2 := (shE 44).1.trans (by decide +kernel)
theorem sk_45 : (SH1 45).1 = 20 := (shE 45).1.trans (by decide +kernel)
theorem sk_46 : (SH1 46).1 = 16 := (shE 46).1.trans (by decide +kernel)
theorem sk_47 : (SH1 47).1 = 16 := (shE 47).1.trans (by decide +kernel)
theorem sk_48 : (SH1 48).1 = 16 := (shE 48).1.trans (by decide +kernel)
theorem sk_49 : (SH1 49).1 = 16 := (shE 49).1.trans (by decide +kernel)
theorem sk_50 : (SH1 50).1 = 16 := (shE 50).1.trans (by decide +kernel)
theorem sk_51 : (SH1 51).1 = 16 := (shE 51).1.trans (by decide +kernel)
theorem sk_52 : (SH1 52).1 = 16 := (shE 52).1.trans (by decide +kernel)
theorem sk_53 : (SH1 53).1 = 16 := (shE 53).1.trans (by decide +kernel)
theorem sk_54 : (SH1 54).1 = 16 := (shE 54).1.trans (by decide +kernel)
theorem sk_55 : (SH1 55).1 = 16 := (shE 55).1.trans (by decide +kernel)
theorem sk_56 : (SH1 56).1 = 16 := (shE 56).1.trans (by decide +kernel)
theorem sk_57 : (SH1 57).1 = 16 := (shE 57).1.trans (by decide +kernel)
theorem sk_58 : (SH1 58).1 = 2 := (shE 58).1.trans (by decide +kernel)
theorem sk_59 : (SH1 59).1 = 20 := (shE 59).1.trans (by decide +kernel)
theorem sk_60 : (SH1 60).1 = 16 := (shE 60).1.trans (by decide +kernel)
theorem sk_61 : (SH1 61).1 = 16 := (shE 61).1.trans (by decide +kernel)
theorem sk_62 : (SH1 62).1 = 16 := (shE 62).1.trans (by decide +kernel)
theorem sk_63 : (SH1 63).1 = 16 := (shE 63).1.trans (by decide +kernel)
theorem sk_64 : (SH1 64).1 = 16 := (shE 64).1.trans (by decide +kernel)
theorem sk_65 : (SH1 65).1 = 2 := (shE 65).1.trans (by decide +kernel)
theorem sk_66 : (SH1 66).1 = 20 := (shE 66).1.trans (by decide +kernel)
theorem sk_67 : (SH1 67).1 = 16 := (shE 67).1.trans (by decide +kernel)
theorem sk_68 : (SH1 68).1 = 16 := (shE 68).1.trans (by decide +kernel)
theorem sk_69 : (SH1 69).1 = 16 := (shE 69).1.trans (by decide +kernel)
theorem sk_70 : (SH1 70).1 = 16 := (shE 70).1.trans (by decide +kernel)
theorem sk_71 : (SH1 71).1 = 16 := (shE 71).1.trans (by decide +kernel)
theorem sk_72 : (SH1 72).1 = 2 := (shE 72).1.trans (by decide +kernel)
theorem sk_73 : (SH1 73).1 = 20 := (shE 73).1.trans (by decide +kernel)
theorem sk_74 : (SH1 74).1 = 16 := (shE 74).1.trans (by decide +kernel)
theorem sk_75 : (SH1 75).1 = 16 := (shE 75).1.trans (by decide +kernel)
theorem sk_76 : (SH1 76).1 = 16 := (shE 76).1.trans (by decide +kernel)
theorem sk_77 : (SH1 77).1 = 16 := (shE 77).1.trans (by decide +kernel)
theorem sk_78 : (SH1 78).1 = 16 := (shE 78).1.trans (by decide +kernel)
theorem sk_79 : (SH1 79).1 = 2 := (shE 79).1.trans (by decide +kernel)
theorem sk_80 : (SH1 80).1 = 20 := (shE 80).1.trans (by decide +kernel)
theorem sk_81 : (SH1 81).1 = 16 := (shE 81).1.trans (by decide +kernel)
theorem sk_82 : (SH1 82).1 = 16 := (shE 82).1.trans (by decide +kernel)
theorem sk_83 : (SH1 83).1 = 16 := (shE 83).1.trans (by decide +kernel)
theorem sk_84 : (SH1 84).1 = 16 := (shE 84).1.trans (by decide +kernel)
theorem sk_85 : (SH1 85).1 = 16 := (shE 85).1.trans (by decide +kernel)
theorem sk_86 : (SH1 86).1 = 2 := (shE 86).1.trans (by decide +kernel)
theorem sk_87 : (SH1 87).1 = 20 := (shE 87).1.trans (by decide +kernel)
theorem sk_88 : (SH1 88).1 = 16 := (shE 88).1.trans (by decide +kernel)
theorem sk_89 : (SH1 89).1 = 16 := (shE 89).1.trans (by decide +kernel)
theorem sk_90 : (SH1 90).1 = 16 := (shE 90).1.trans (by decide +kernel)
theorem sk_91 : (SH1 91).1 = 16 := (shE 91).1.trans (by decide +kernel)
theorem sk_92 : (SH1 92).1 = 16 := (shE 92).1.trans (by decide +kernel)
theorem sk_93 : (SH1 93).1 = 2 := (shE 93).1.trans (by decide +kernel)
theorem sk_94 : (SH1 94).1 = 20 := (shE 94).1.trans (by decide +kernel)
theorem sk_95 : (SH1 95).1 = 16 := (shE 95).1.trans (by decide +kernel)
theorem sk_96 : (SH1 96).1 = 16 := (shE 96).1.trans (by decide +kernel)
theorem sk_97 : (SH1 97).1 = 16 := (shE 97).1.trans (by decide +kernel)
theorem sk_98 : (SH1 98).1 = 16 := (shE 98).1.trans (by decide +kernel)
theorem sk_99 : (SH1 99).1 = 16 := (shE 99).1.trans (by decide +kernel)
theorem sk_100 : (SH1 100).1 = 21 := (shE 100).1.trans (by decide +kernel)
theorem sk_101 : (SH1 101).1 = 1 := (shE 101).1.trans (by decide +kernel)
theorem sk_102 : (SH1 102).1 = 0 := (shE 102).1.trans (by decide +kernel)
theorem sk_103 : (SH1 103).1 = 16 := (shE 103).1.trans (by decide +kernel)
theorem sk_104 : (SH1 104).1 = 16 := (shE 104).1.trans (by decide +kernel)
theorem sk_105 : (SH1 105).1 = 16 := (shE 105).1.trans (by decide +kernel)
theorem sk_106 : (SH1 106).1 = 16 := (shE 106).1.trans (by decide +kernel)
theorem sk_107 : (SH1 107).1 = 16 := (shE 107).1.trans (by decide +kernel)
theorem sk_108 : (SH1 108).1 = 16 := (shE 108).1.trans (by decide +kernel)
theorem sk_109 : (SH1 109).1 = 16 := (shE 109).1.trans (by decide +kernel)
theorem sk_110 : (SH1 110).1 = 20 := (shE 110).1.trans (by decide +kernel)
theorem sk_111 : (SH1 111).1 = 16 := (shE 111).1.trans (by decide +kernel)
theorem sk_112 : (SH1 112).1 = 16 := (shE 112).1.trans (by decide +kernel)
theorem sk_113 : (SH1 113).1 = 16 := (shE 113).1.trans (by decide +kernel)
theorem sk_114 : (SH1 114).1 = 16 := (shE 114).1.trans (by decide +kernel)
theorem sk_115 : (SH1 115).1 = 16 := (shE 115).1.trans (by decide +kernel)
theorem sk_116 : (SH1 116).1 = 16 := (shE 116).1.trans (by decide +kernel)
theorem sk_117 : (SH1 117).1 = 16 := (shE 117).1.trans (by decide +kernel)
theorem sk_118 : (SH1 118).1 = 16 := (shE 118).1.trans (by decide +kernel)
theorem sk_119 : (SH1 119).1 = 16 := (shE 119).1.trans (by decide +kernel)
theorem sk_120 : (SH1 120).1 = 16 := (shE 120).1.trans (by decide +kernel)
theorem sk_121 : (SH1 121).1 = 16 := (shE 121).1.trans (by decide +kernel)
theorem sk_122 : (SH1 122).1 = 16 := (shE 122).1.trans (by decide +kernel)
theorem sk_123 : (SH1 123).1 = 3 := (shE 123).1.trans (by decide +kernel)
theorem sk_124 : (SH1 124).1 = 2 := (shE 124).1.trans (by decide +kernel)
theorem sk_125 : (SH1 125).1 = 20 := (shE 125).1.trans (by decide +kernel)
theorem sk_126 : (SH1 126).1 = 16 := (shE 126).1.trans (by decide +kernel)
theorem sk_127 : (SH1 127).1 = 16 := (shE 127).1.trans (by decide +kernel)
theorem sk_128 : (SH1 128).1 = 16 := (shE 128).1.trans (by decide +kernel)
theorem sk_129 : (SH1 129).1 = 16 := (shE 129).1.trans (by decide +kernel)
theorem sk_130 : (SH1 130).1 = 16 := (shE 130).1.trans (by decide +kernel)
theorem sk_131 : (SH1 131).1 = 6 := (shE 131).1.trans (by decide +kernel)
theorem sk_132 : (SH1 132).1 = 5 := (shE 132).1.trans (by decide +kernel)
theorem sk_133 : (SH1 133).1 = 20 := (shE 133).1.trans (by decide +kernel)
theorem sk_134 : (SH1 134).1 = 16 := (shE 134).1.trans (by decide +kernel)
theorem sk_135 : (SH1 135).1 = 16 := (shE 135).1.trans (by decide +kernel)
theorem sk_136 : (SH1 136).1 = 16 := (shE 136).1.trans (by decide +kernel)
theorem sk_137 : (SH1 137).1 = 16 := (shE 137).1.trans (by decide +kernel)
theorem sk_138 : (SH1 138).1 = 16 := (shE 138).1.trans (by decide +kernel)
theorem sk_139 : (SH1 139).1 = 16 := (shE 139).1.trans (by decide +kernel)
theorem sk_140 : (SH1 140).1 = 16 := (shE 140).1.trans (by decide +kernel)
theorem sk_141 : (SH1 141).1 = 16 := (shE 141).1.trans (by decide +kernel)
theorem sk_142 : (SH1 142).1 = 16 := (shE 142).1.trans (by decide +kernel)
theorem sk_143 : (SH1 143).1 = 16 := (shE 143).1.trans (by decide +kernel)
theorem sk_144 : (SH1 144).1 = 16 := (shE 144).1.trans (by decide +kernel)
theorem sk_145 : (SH1 145).1 = 16 := (shE 145).1.trans (by decide +kernel)
theorem sk_146 : (SH1 146).1 = 16 := (shE 146).1.trans (by decide +kernel)
theorem sk_147 : (SH1 147).1 = 16 := (shE 147).1.trans (by decide +kernel)
theorem sk_148 : (SH1 148).1 = 16 := (shE 148).1.trans (by decide +kernel)
theorem sk_149 : (SH1 149).1 = 16 := (shE 149).1.trans (by decide +kernel)
theorem sk_150 : (SH1 150).1 = 16 := (shE 150).1.trans (by decide +kernel)
theorem sk_151 : (SH1 151).1 = 16 := (shE 151).1.trans (by decide +kernel)
theorem sk_152 : (SH1 152).1 = 16 := (shE 152).1.trans (by decide +kernel)
theorem sk_153 : (SH1 153).1 = 16 := (shE 153).1.trans (by decide +kernel)
theorem sk_154 : (SH1 154).1 = 16 := (shE 154).1.trans (by decide +kernel)
theorem sk_155 : (SH1 155).1 = 16 := (shE 155).1.trans (by decide +kernel)
theorem sk_156 : (SH1 156).1 = 16 := (shE 156).1.trans (by decide +kernel)
theorem sk_157 : (SH1 157).1 = 16 := (shE 157).1.trans (by decide +kernel)
theorem sk_158 : (SH1 158).1 = 16 := (shE 158).1.trans (by decide +kernel)
theorem sk_159 : (SH1 159).1 = 16 := (shE 159).1.trans (by decide +kernel)
theorem sk_160 : (SH1 160).1 = 16 := (shE 160).1.trans (by decide +kernel)
theorem sk_161 : (SH1 161).1 = 16 := (shE 161).1.trans (by decide +kernel)
theorem sk_162 : (SH1 162).1 = 16 := (shE 162).1.trans (by decide +kernel)
theorem sk_163 : (SH1 163).1 = 16 := (shE 163).1.trans (by decide +kernel)
theorem sk_164 : (SH1 164).1 = 7 := (shE 164).1.trans (by decide +kernel)
theorem sk_165 : (SH1 165).1 = 2 := (shE 165).1.trans (by decide +kernel)
theorem sk_166 : (SH1 166).1 = 20 := (shE 166).1.trans (by decide +kernel)
theorem sk_167 : (SH1 167).1 = 16 := (shE 167).1.trans (by decide +kernel)
theorem sk_168 : (SH1 168).1 = 16 := (shE 168).1.trans (by decide +kernel)
theorem sk_169 : (SH1 169).1 = 16 := (shE 169).1.trans (by decide +kernel)
theorem sk_170 : (SH1 170).1 = 16 := (shE 170).1.trans (by decide +kernel)
theorem sk_171 : (SH1 171).1 = 16 := (shE 171).1.trans (by decide +kernel)
theorem sk_172 : (SH1 172).1 = 16 := (shE 172).1.trans (by decide +kernel)
theorem sk_173 : (SH1 173).1 = 16 := (shE 173).1.trans (by decide +kernel)
theorem sk_174 : (SH1 174).1 = 16 := (shE 174).1.trans (by decide +kernel)
theorem sk_175 : (SH1 175).1 = 16 := (shE 175).1.trans (by decide +kernel)
theorem sk_176 : (SH1 176).1 = 16 := (shE 176).1.trans (by decide +kernel)
theorem sk_177 : (SH1 177).1 = 16 := (shE 177).1.trans (by decide +kernel)
theorem sk_178 : (SH1 178).1 = 16 := (shE 178).1.trans (by decide +kernel)
theorem sk_179 : (SH1 179).1 = 7 := (shE 179).1.trans (by decide +kernel)
theorem sk_180 : (SH1 180).1 = 2 := (shE 180).1.trans (by decide +kernel)
theorem sk_181 : (SH1 181).1 = 20 := (shE 181).1.trans (by decide +kernel)
theorem sk_182 : (SH1 182).1 = 16 := (shE 182).1.trans (by decide +kernel)
theorem sk_183 : (SH1 183).1 = 16 := (shE 183).1.trans (by decide +kernel)
theorem sk_184 : (SH1 184).1 = 16 := (shE 184).1.trans (by decide +kernel)
theorem sk_185 : (SH1 185).1 = 16 := (shE 185).1.trans (by decide +kernel)
theorem sk_186 : (SH1 186).1 = 16 := (shE 186).1.trans (by decide +kernel)
theorem sk_187 : (SH1 187).1 = 16 := (shE 187).1.trans (by decide +kernel)
theorem sk_188 : (SH1 188).1 = 16 := (shE 188).1.trans (by decide +kernel)
theorem sk_189 : (SH1 189).1 = 16 := (shE 189).1.trans (by decide +kernel)
theorem sk_190 : (SH1 190).1 = 16 := (shE 190).1.trans (by decide +kernel)
theorem sk_191 : (SH1 191).1 = 16 := (shE 191).1.trans (by decide +kernel)
theorem sk_192 : (SH1 192).1 = 16 := (shE 192).1.trans (by decide +kernel)
theorem sk_193 : (SH1 193).1 = 16 := (shE 193).1.trans (by decide +kernel)
theorem sk_194 : (SH1 194).1 = 10 := (shE 194).1.trans (by decide +kernel)
theorem sk_195 : (SH1 195).1 = 16 := (shE 195).1.trans (by decide +kernel)
theorem sk_196 : (SH1 196).1 = 16 := (shE 196).1.trans (by decide +kernel)
theorem sk_197 : (SH1 197).1 = 16 := (shE 197).1.trans (by decide +kernel)
theorem sk_198 : (SH1 198).1 = 16 := (shE 198).1.trans (by decide +kernel)
theorem sk_199 : (SH1 199).1 = 16 := (shE 199).1.trans (by decide +kernel)
theorem sk_200 : (SH1 200).1 = 16 := (shE 200).1.trans (by decide +kernel)
theorem sk_201 : (SH1 201).1 = 4 := (shE 201).1.trans (by decide +kernel)
theorem sk_202 : (SH1 202).1 = 16 := (shE 202).1.trans (by decide +kernel)
theorem sk_203 : (SH1 203).1 = 16 := (shE 203).1.trans (by decide +kernel)
theorem sk_204 : (SH1 204).1 = 20 := (shE 204).1.trans (by decide +kernel)
theorem sk_205 : (SH1 205).1 = 16 := (shE 205).1.trans (by decide +kernel)
theorem sk_206 : (SH1 206).1 = 16 := (shE 206).1.trans (by decide +kernel)
theorem sk_207 : (SH1 207).1 = 16 := (shE 207).1.trans (by decide +kernel)
theorem sk_208 : (SH1 208).1 = 16 := (shE 208).1.trans (by decide +kernel)
theorem sk_209 : (SH1 209).1 = 16 := (shE 209).1.trans (by decide +kernel)
theorem sk_210 : (SH1 210).1 = 8 := (shE 210).1.trans (by decide +kernel)
theorem sk_211 : (SH1 211).1 = 0 := (shE 211).1.trans (by decide +kernel)
theorem sk_212 : (SH1 212).1 = 16 := (shE 212).1.trans (by decide +kernel)
theorem sk_213 : (SH1 213).1 = 16 := (shE 213).1.trans (by decide +kernel)
theorem sk_214 : (SH1 214).1 = 16 := (shE 214).1.trans (by decide +kernel)
theorem sk_215 : (SH1 215).1 = 16 := (shE 215).1.trans (by decide +kernel)
theorem sk_216 : (SH1 216).1 = 16 := (shE 216).1.trans (by decide +kernel)
theorem sk_217 : (SH1 217).1 = 22 := (shE 217).1.trans (by decide +kernel)
theorem sk_218 : (SH1 218).1 = 5 := (shE 218).1.trans (by decide +kernel)
theorem sk_219 : (SH1 219).1 = 20 := (shE 219).1.trans (by decide +kernel)
theorem sk_220 : (SH1 220).1 = 16 := (shE 220).1.trans (by decide +kernel)
theorem sk_221 : (SH1 221).1 = 16 := (shE 221).1.trans (by decide +kernel)
theorem sk_222 : (SH1 222).1 = 16 := (shE 222).1.trans (by decide +kernel)
theorem sk_223 : (SH1 223).1 = 16 := (shE 223).1.trans (by decide +kernel)
theorem sk_224 : (SH1 224).1 = 16 := (shE 224).1.trans (by decide +kernel)
theorem sk_225 : (SH1 225).1 = 16 := (shE 225).1.trans (by decide +kernel)
theorem sk_226 : (SH1 226).1 = 16 := (shE 226).1.trans (by decide +kernel)
theorem sk_227 : (SH1 227).1 = 16 := (shE 227).1.trans (by decide +kernel)
theorem sk_228 : (SH1 228).1 = 16 := (shE 228).1.trans (by decide +kernel)
theorem sk_229 : (SH1 229).1 = 16 := (shE 229).1.trans (by decide +kernel)
theorem sk_230 : (SH1 230).1 = 16 := (shE 230).1.trans (by decide +kernel)
theorem sk_231 : (SH1 231).1 = 16 := (shE 231).1.trans (by decide +kernel)
theorem sk_232 : (SH1 232).1 = 16 := (shE 232).1.trans (by decide +kernel)
theorem sk_233 : (SH1 233).1 = 16 := (shE 233).1.trans (by decide +kernel)
theorem sk_234 : (SH1 234).1 = 16 := (shE 234).1.trans (by decide +kernel)
theorem sk_235 : (SH1 235).1 = 16 := (shE 235).1.trans (by decide +kernel)
theorem sk_236 : (SH1 236).1 = 16 := (shE 236).1.trans (by decide +kernel)
theorem sk_237 : (SH1 237).1 = 16 := (shE 237).1.trans (by decide +kernel)
theorem sk_238 : (SH1 238).1 = 16 := (shE 238).1.trans (by decide +kernel)
theorem sk_239 : (SH1 239).1 = 16 := (shE 239).1.trans (by decide +kernel)
theorem sk_240 : (SH1 240).1 = 16 := (shE 240).1.trans (by decide +kernel)
theorem sk_241 : (SH1 241).1 = 16 := (shE 241).1.trans (by decide +kernel)
theorem sk_242 : (SH1 242).1 = 16 := (shE 242).1.trans (by decide +kernel)
theorem sk_243 : (SH1 243).1 = 16 := (shE 243).1.trans (by decide +kernel)
theorem sk_244 : (SH1 244).1 = 16 := (shE 244).1.trans (by decide +kernel)
theorem sk_245 : (SH1 245).1 = 16 := (shE 245).1.trans (by decide +kernel)
theorem sk_246 : (SH1 246).1 = 16 := (shE 246).1.trans (by decide +kernel)
theorem sk_247 : (SH1 247).1 = 16 := (shE 247).1.trans (by decide +kernel)
theorem sk_248 : (SH1 248).1 = 16 := (shE 248).1.trans (by decide +kernel)
theorem sk_249 : (SH1 249).1 = 16 := (shE 249).1.trans (by decide +kernel)
theorem sk_250 : (SH1 250).1 = 7 := (shE 250).1.trans (by decide +kernel)
theorem sk_251 : (SH1 251).1 = 2 := (shE 251).1.trans (by decide +kernel)
theorem sk_252 : (SH1 252).1 = 20 := (shE 252).1.trans (by decide +kernel)
theorem sk_253 : (SH1 253).1 = 16 := (shE 253).1.trans (by decide +kernel)
theorem sk_254 : (SH1 254).1 = 16 := (shE 254).1.trans (by decide +kernel)
theorem sk_255 : (SH1 255).1 = 16 := (shE 255).1.trans (by decide +kernel)
theorem sk_256 : (SH1 256).1 = 16 := (shE 256).1.trans (by decide +kernel)
theorem sk_257 : (SH1 257).1 = 16 := (shE 257).1.trans (by decide +kernel)
theorem sk_258 : (SH1 258).1 = 16 := (shE 258).1.trans (by decide +kernel)
theorem sk_259 : (SH1 259).1 = 16 := (shE 259).1.trans (by decide +kernel)
theorem sk_260 : (SH1 260).1 = 16 := (shE 260).1.trans (by decide +kernel)
theorem sk_261 : (SH1 261).1 = 16 := (shE 261).1.trans (by decide +kernel)
theorem sk_262 : (SH1 262).1 = 16 := (shE 262).1.trans (by decide +kernel)
theorem sk_263 : (SH1 263).1 = 16 := (shE 263).1.trans (by decide +kernel)
theorem sk_264 : (SH1 264).1 = 16 := (shE 264).1.trans (by decide +kernel)
theorem sk_265 : (SH1 265).1 = 2 := (shE 265).1.trans (by decide +kernel)
theorem sk_266 : (SH1 266).1 = 20 := (shE 266).1.trans (by decide +kernel)
theorem sk_267 : (SH1 267).1 = 16 := (shE 267).1.trans (by decide +kernel)
theorem sk_268 : (SH1 268).1 = 16 := (shE 268).1.trans (by decide +kernel)
theorem sk_269 : (SH1 269).1 = 16 := (shE 269).1.trans (by decide +kernel)
theorem sk_270 : (SH1 270).1 = 16 := (shE 270).1.trans (by decide +kernel)
theorem sk_271 : (SH1 271).1 = 16 := (shE 271).1.trans (by decide +kernel)
theorem sk_272 : (SH1 272).1 = 2 := (shE 272).1.trans (by decide +kernel)
theorem sk_273 : (SH1 273).1 = 20 := (shE 273).1.trans (by decide +kernel)
theorem sk_274 : (SH1 274).1 = 16 := (shE 274).1.trans (by decide +kernel)
theorem sk_275 : (SH1 275).1 = 16 := (shE 275).1.trans (by decide +kernel)
theorem sk_276 : (SH1 276).1 = 16 := (shE 276).1.trans (by decide +kernel)
theorem sk_277 : (SH1 277).1 = 16 := (shE 277).1.trans (by decide +kernel)
theorem sk_278 : (SH1 278).1 = 16 := (shE 278).1.trans (by decide +kernel)
theorem sk_279 : (SH1 279).1 = 2 := (shE 279).1.trans (by decide +kernel)
theorem sk_280 : (SH1 280).1 = 20 := (shE 280).1.trans (by decide +kernel)
theorem sk_281 : (SH1 281).1 = 16 := (shE 281).1.trans (by decide +kernel)
theorem sk_282 : (SH1 282).1 = 16 := (shE 282).1.trans (by decide +kernel)
theorem sk_283 : (SH1 283).1 = 16 := (shE 283).1.trans (by decide +kernel)
theorem sk_284 : (SH1 284).1 = 16 := (shE 284).1.trans (by decide +kernel)
theorem sk_285 : (SH1 285).1 = 16 := (shE 285).1.trans (by decide +kernel)
theorem sk_286 : (SH1 286).1 = 2 := (shE 286).1.trans (by decide +kernel)
theorem sk_287 : (SH1 287).1 = 20 := (shE 287).1.trans (by decide +kernel)
theorem sk_288 : (SH1 288).1 = 16 := (shE 288).1.trans (by decide +kernel)
theorem sk_289 : (SH1 289).1 = 16 := (shE 289).1.trans (by decide +kernel)
theorem sk_290 : (SH1 290).1 = 16 := (shE 290).1.trans (by decide +kernel)
theorem sk_291 : (SH1 291).1 = 16 := (shE 291).1.trans (by decide +kernel)
theorem sk_292 : (SH1 292).1 = 16 := (shE 292).1.trans (by decide +kernel)
theorem sk_293 : (SH1 293).1 = 2 := (shE 293).1.trans (by decide +kernel)
theorem sk_294 : (SH1 294).1 = 20 := (shE 294).1.trans (by decide +kernel)
theorem sk_295 : (SH1 295).1 = 16 := (shE 295).1.trans (by decide +kernel)
theorem sk_296 : (SH1 296).1 = 16 := (shE 296).1.trans (by decide +kernel)
theorem sk_297 : (SH1 297).1 = 16 := (shE 297).1.trans (by decide +kernel)
theorem sk_298 : (SH1 298).1 = 16 := (shE 298).1.trans (by decide +kernel)
theorem sk_299 : (SH1 299).1 = 16 := (shE 299).1.trans (by decide +kernel)
theorem sk_300 : (SH1 300).1 = 2 := (shE 300).1.trans (by decide +kernel)
theorem sk_301 : (SH1 301).1 = 20 := (shE 301).1.trans (by decide +kernel)
theorem sk_302 : (SH1 302).1 = 16 := (shE 302).1.trans (by decide +kernel)
theorem sk_303 : (SH1 303).1 = 16 := (shE 303).1.trans (by decide +kernel)
theorem sk_304 : (SH1 304).1 = 16 := (shE 304).1.trans (by decide +kernel)
theorem sk_305 : (SH1 305).1 = 16 := (shE 305).1.trans (by decide +kernel)
theorem sk_306 : (SH1 306).1 = 16 := (shE 306).1.trans (by decide +kernel)
theorem sk_307 : (SH1 307).1 = 8 := (shE 307).1.trans (by decide +kernel)
theorem sk_308 : (SH1 308).1 = 0 := (shE 308).1.trans (by decide +kernel)
theorem sk_309 : (SH1 309).1 = 16 := (shE 309).1.trans (by decide +kernel)
theorem sk_310 : (SH1 310).1 = 16 := (shE 310).1.trans (by decide +kernel)
theorem sk_311 : (SH1 311).1 = 16 := (shE 311).1.trans (by decide +kernel)
theorem sk_312 : (SH1 312).1 = 16 := (shE 312).1.trans (by decide +kernel)
theorem sk_313 : (SH1 313).1 = 16 := (shE 313).1.trans (by decide +kernel)
theorem sk_314 : (SH1 314).1 = 22 := (shE 314).1.trans (by decide +kernel)
theorem sk_315 : (SH1 315).1 = 5 := (shE 315).1.trans (by decide +kernel)
theorem sk_316 : (SH1 316).1 = 20 := (shE 316).1.trans (by decide +kernel)
theorem sk_317 : (SH1 317).1 = 16 := (shE 317).1.trans (by decide +kernel)
theorem sk_318 : (SH1 318).1 = 16 := (shE 318).1.trans (by decide +kernel)
theorem sk_319 : (SH1 319).1 = 16 := (shE 319).1.trans (by decide +kernel)
theorem sk_320 : (SH1 320).1 = 16 := (shE 320).1.trans (by decide +kernel)
theorem sk_321 : (SH1 321).1 = 16 := (shE 321).1.trans (by decide +kernel)
theorem sk_322 : (SH1 322).1 = 16 := (shE 322).1.trans (by decide +kernel)
theorem sk_323 : (SH1 323).1 = 16 := (shE 323).1.trans (by decide +kernel)
theorem sk_324 : (SH1 324).1 = 16 := (shE 324).1.trans (by decide +kernel)
theorem sk_325 : (SH1 325).1 = 16 := (shE 325).1.trans (by decide +kernel)
theorem sk_326 : (SH1 326).1 = 16 := (shE 326).1.trans (by decide +kernel)
theorem sk_327 : (SH1 327).1 = 16 := (shE 327).1.trans (by decide +kernel)
theorem sk_328 : (SH1 328).1 = 16 := (shE 328).1.trans (by decide +kernel)
theorem sk_329 : (SH1 329).1 = 16 := (shE 329).1.trans (by decide +kernel)
theorem sk_330 : (SH1 330).1 = 16 := (shE 330).1.trans (by decide +kernel)
theorem sk_331 : (SH1 331).1 = 16 := (shE 331).1.trans (by decide +kernel)
theorem sk_332 : (SH1 332).1 = 16 := (shE 332).1.trans (by decide +kernel)
theorem sk_333 : (SH1 333).1 = 16 := (shE 333).1.trans (by decide +kernel)
theorem sk_334 : (SH1 334).1 = 16 := (shE 334).1.trans (by decide +kernel)
theorem sk_335 : (SH1 335).1 = 16 := (shE 335).1.trans (by decide +kernel)
theorem sk_336 : (SH1 336).1 = 16 := (shE 336).1.trans (by decide +kernel)
theorem sk_337 : (SH1 337).1 = 16 := (shE 337).1.trans (by decide +kernel)
theorem sk_338 : (SH1 338).1 = 16 := (shE 338).1.trans (by decide +kernel)
theorem sk_339 : (SH1 339).1 = 16 := (shE 339).1.trans (by decide +kernel)
theorem sk_340 : (SH1 340).1 = 16 := (shE 340).1.trans (by decide +kernel)
theorem sk_341 : (SH1 341).1 = 16 := (shE 341).1.trans (by decide +kernel)
theorem sk_342 : (SH1 342).1 = 16 := (shE 342).1.trans (by decide +kernel)
theorem sk_343 : (SH1 343).1 = 16 := (shE 343).1.trans (by decide +kernel)
theorem sk_344 : (SH1 344).1 = 16 := (shE 344).1.trans (by decide +kernel)
theorem sk_345 : (SH1 345).1 = 16 := (shE 345).1.trans (by decide +kernel)
theorem sk_346 : (SH1 346).1 = 16 := (shE 346).1.trans (by decide +kernel)
theorem sk_347 : (SH1 347).1 = 7 := (shE 347).1.trans (by decide +kernel)
theorem sk_348 : (SH1 348).1 = 2 := (shE 348).1.trans (by decide +kernel)
theorem sk_349 : (SH1 349).1 = 20 := (shE 349).1.trans (by decide +kernel)
theorem sk_350 : (SH1 350).1 = 16 := (shE 350).1.trans (by decide +kernel)
theorem sk_351 : (SH1 351).1 = 16 := (shE 351).1.trans (by decide +kernel)
theorem sk_352 : (SH1 352).1 = 16 := (shE 352).1.trans (by decide +kernel)
theorem sk_353 : (SH1 353).1 = 16 := (shE 353).1.trans (by decide +kernel)
theorem sk_354 : (SH1 354).1 = 16 := (shE 354).1.trans (by decide +kernel)
theorem sk_355 : (SH1 355).1 = 16 := (shE 355).1.trans (by decide +kernel)
theorem sk_356 : (SH1 356).1 = 16 := (shE 356).1.trans (by decide +kernel)
theorem sk_357 : (SH1 357).1 = 16 := (shE 357).1.trans (by decide +kernel)
theorem sk_358 : (SH1 358).1 = 16 := (shE 358).1.trans (by decide +kernel)
theorem sk_359 : (SH1 359).1 = 16 := (shE 359).1.trans (by decide +kernel)
theorem sk_360 : (SH1 360).1 = 16 := (shE 360).1.trans (by decide +kernel)
theorem sk_361 : (SH1 361).1 = 16 := (shE 361).1.trans (by decide +kernel)
theorem sk_362 : (SH1 362).1 = 2 := (shE 362).1.trans (by decide +kernel)
theorem sk_363 : (SH1 363).1 = 20 := (shE 363).1.trans (by decide +kernel)
theorem sk_364 : (SH1 364).1 = 16 := (shE 364).1.trans (by decide +kernel)
theorem sk_365 : (SH1 365).1 = 16 := (shE 365).1.trans (by decide +kernel)
theorem sk_366 : (SH1 366).1 = 16 := (shE 366).1.trans (by decide +kernel)
theorem sk_367 : (SH1 367).1 = 16 := (shE 367).1.trans (by decide +kernel)
theorem sk_368 : (SH1 368).1 = 16 := (shE 368).1.trans (by decide +kernel)
theorem sk_369 : (SH1 369).1 = 2 := (shE 369).1.trans (by decide +kernel)
theorem sk_370 : (SH1 370).1 = 20 := (shE 370).1.trans (by decide +kernel)
theorem sk_371 : (SH1 371).1 = 16 := (shE 371).1.trans (by decide +kernel)
theorem sk_372 : (SH1 372).1 = 16 := (shE 372).1.trans (by decide +kernel)
theorem sk_373 : (SH1 373).1 = 16 := (shE 373).1.trans (by decide +kernel)
theorem sk_374 : (SH1 374).1 = 16 := (shE 374).1.trans (by decide +kernel)
theorem sk_375 : (SH1 375).1 = 16 := (shE 375).1.trans (by decide +kernel)
theorem sk_376 : (SH1 376).1 = 2 := (shE 376).1.trans (by decide +kernel)
theorem sk_377 : (SH1 377).1 = 20 := (shE 377).1.trans (by decide +kernel)
theorem sk_378 : (SH1 378).1 = 16 := (shE 378).1.trans (by decide +kernel)
theorem sk_379 : (SH1 379).1 = 16 := (shE 379).1.trans (by decide +kernel)
theorem sk_380 : (SH1 380).1 = 16 := (shE 380).1.trans (by decide +kernel)
theorem sk_381 : (SH1 381).1 = 16 := (shE 381).1.trans (by decide +kernel)
theorem sk_382 : (SH1 382).1 = 16 := (shE 382).1.trans (by decide +kernel)
theorem sk_383 : (SH1 383).1 = 2 := (shE 383).1.trans (by decide +kernel)
theorem sk_384 : (SH1 384).1 = 20 := (shE 384).1.trans (by decide +kernel)
theorem sk_385 : (SH1 385).1 = 16 := (shE 385).1.trans (by decide +kernel)
theorem sk_386 : (SH1 386).1 = 16 := (shE 386).1.trans (by decide +kernel)
theorem sk_387 : (SH1 387).1 = 16 := (shE 387).1.trans (by decide +kernel)
theorem sk_388 : (SH1 388).1 = 16 := (shE 388).1.trans (by decide +kernel)
theorem sk_389 : (SH1 389).1 = 16 := (shE 389).1.trans (by decide +kernel)
theorem sk_390 : (SH1 390).1 = 2 := (shE 390).1.trans (by decide +kernel)
theorem sk_391 : (SH1 391).1 = 20 := (shE 391).1.trans (by decide +kernel)
theorem sk_392 : (SH1 392).1 = 16 := (shE 392).1.trans (by decide +kernel)
theorem sk_393 : (SH1 393).1 = 16 := (shE 393).1.trans (by decide +kernel)
theorem sk_394 : (SH1 394).1 = 16 := (shE 394).1.trans (by decide +kernel)
theorem sk_395 : (SH1 395).1 = 16 := (shE 395).1.trans (by decide +kernel)
theorem sk_396 : (SH1 396).1 = 16 := (shE 396).1.trans (by decide +kernel)
theorem sk_397 : (SH1 397).1 = 2 := (shE 397).1.trans (by decide +kernel)
theorem sk_398 : (SH1 398).1 = 20 := (shE 398).1.trans (by decide +kernel)
theorem sk_399 : (SH1 399).1 = 16 := (shE 399).1.trans (by decide +kernel)
theorem sk_400 : (SH1 400).1 = 16 := (shE 400).1.trans (by decide +kernel)
theorem sk_401 : (SH1 401).1 = 16 := (shE 401).1.trans (by decide +kernel)
theorem sk_402 : (SH1 402).1 = 16 := (shE 402).1.trans (by decide +kernel)
theorem sk_403 : (SH1 403).1 = 16 := (shE 403).1.trans (by decide +kernel)
theorem sk_404 : (SH1 404).1 = 12 := (shE 404).1.trans (by decide +kernel)
theorem sk_405 : (SH1 405).1 = 18 := (shE 405).1.trans (by decide +kernel)
theorem sk_406 : (SH1 406).1 = 16 := (shE 406).1.trans (by decide +kernel)
theorem sk_407 : (SH1 407).1 = 16 := (shE 407).1.trans (by decide +kernel)
theorem sk_408 : (SH1 408).1 = 16 := (shE 408).1.trans (by decide +kernel)
theorem sk_409 : (SH1 409).1 = 17 := (shE 409).1.trans (by decide +kernel)
theorem sk_410 : (SH1 410).1 = 17 := (shE 410).1.trans (by decide +kernel)
theorem sk_411 : (SH1 411).1 = 16 := (shE 411).1.trans (by decide +kernel)
theorem sk_412 : (SH1 412).1 = 16 := (shE 412).1.trans (by decide +kernel)
theorem sk_413 : (SH1 413).1 = 16 := (shE 413).1.trans (by decide +kernel)
theorem sk_414 : (SH1 414).1 = 16 := (shE 414).1.trans (by decide +kernel)
theorem sk_415 : (SH1 415).1 = 16 := (shE 415).1.trans (by decide +kernel)
theorem sk_416 : (SH1 416).1 = 16 := (shE 416).1.trans (by decide +kernel)
theorem sk_417 : (SH1 417).1 = 16 := (shE 417).1.trans (by decide +kernel)
theorem sk_418 : (SH1 418).1 = 16 := (shE 418).1.trans (by decide +kernel)
theorem sk_419 : (SH1 419).1 = 16 := (shE 419).1.trans (by decide +kernel)
theorem sk_420 : (SH1 420).1 = 16 := (shE 420).1.trans (by decide +kernel)
theorem sk_421 : (SH1 421).1 = 16 := (shE 421).1.trans (by decide +kernel)
theorem sk_422 : (SH1 422).1 = 16 := (shE 422).1.trans (by decide +kernel)
theorem sk_423 : (SH1 423).1 = 16 := (shE 423).1.trans (by decide +kernel)
theorem sk_424 : (SH1 424).1 = 16 := (shE 424).1.trans (by decide +kernel)
theorem sk_425 : (SH1 425).1 = 16 := (shE 425).1.trans (by decide +kernel)
theorem sk_426 : (SH1 426).1 = 16 := (shE 426).1.trans (by decide +kernel)
theorem sk_427 : (SH1 427).1 = 16 := (shE 427).1.trans (by decide +kernel)
theorem sk_428 : (SH1 428).1 = 16 := (shE 428).1.trans (by decide +kernel)
theorem sk_429 : (SH1 429).1 = 16 := (shE 429).1.trans (by decide +kernel)
theorem sk_430 : (SH1 430).1 = 16 := (shE 430).1.trans (by decide +kernel)
theorem sk_431 : (SH1 431).1 = 16 := (shE 431).1.trans (by decide +kernel)
theorem sk_432 : (SH1 432).1 = 16 := (shE 432).1.trans (by decide +kernel)
theorem sk_433 : (SH1 433).1 = 19 := (shE 433).1.trans (by decide +kernel)
theorem sk_434 : (SH1 434).1 = 17 := (shE 434).1.trans (by decide +kernel)
theorem sn_2 : (SH1 2).2.1 = 940 := (shE 2).2.1.trans (by decide +kernel)
theorem sn_5 : (SH1 5).2.1 = 8 := (shE 5).2.1.trans (by decide +kernel)
theorem sn_6 : (SH1 6).2.1 = 8 := (shE 6).2.1.trans (by decide +kernel)
theorem sn_7 : (SH1 7).2.1 = 8 := (shE 7).2.1.trans (by decide +kernel)
theorem sn_8 : (SH1 8).2.1 = 144 := (shE 8).2.1.trans (by decide +kernel)
theorem sn_9 : (SH1 9).2.1 = 144 := (shE 9).2.1.trans (by decide +kernel)
theorem sn_10 : (SH1 10).2.1 = 6 := (shE 10).2.1.trans (by decide +kernel)
theorem sn_12 : (SH1 12).2.1 = 30 := (shE 12).2.1.trans (by decide +kernel)
theorem sn_13 : (SH1 13).2.1 = 3 := (shE 13).2.1.trans (by decide +kernel)
theorem sn_14 : (SH1 14).2.1 = 3 := (shE 14).2.1.trans (by decide +kernel)
theorem sn_15 : (SH1 15).2.1 = 3 := (shE 15).2.1.trans (by decide +kernel)
theorem sn_16 : (SH1 16).2.1 = 3 := (shE 16).2.1.trans (by decide +kernel)
theorem sn_17 : (SH1 17).2.1 = 3 := (shE 17).2.1.trans (by decide +kernel)
theorem sn_18 : (SH1 18).2.1 = 3 := (shE 18).2.1.trans (by decide +kernel)
theorem sn_19 : (SH1 19).2.1 = 3 := (shE 19).2.1.trans (by decide +kernel)
theorem sn_20 : (SH1 20).2.1 = 3 := (shE 20).2.1.trans (by decide +kernel)
theorem sn_21 : (SH1 21).2.1 = 3 := (shE 21).2.1.trans (by decide +kernel)
theorem sn_22 : (SH1 22).2.1 = 3 := (shE 22).2.1.trans (by decide +kernel)
theorem sn_23 : (SH1 23).2.1 = 3 := (shE 23).2.1.trans (by decide +kernel)
theorem sn_24 : (SH1 24).2.1 = 3 := (shE 24).2.1.trans (by decide +kernel)
theorem sn_25 : (SH1 25).2.1 = 3 := (shE 25).2.1.trans (by decide +kernel)
theorem sn_26 : (SH1 26).2.1 = 3 := (shE 26).2.1.trans (by decide +kernel)
theorem sn_27 : (SH1 27).2.1 = 3 := (shE 27).2.1.trans (by decide +kernel)
theorem sn_28 : (SH1 28).2.1 = 3 := (shE 28).2.1.trans (by decide +kernel)
theorem sn_29 : (SH1 29).2.1 = 3 := (shE 29).2.1.trans (by decide +kernel)
theorem sn_30 : (SH1 30).2.1 = 3 := (shE 30).2.1.trans (by decide +kernel)
theorem sn_31 : (SH1 31).2.1 = 3 := (shE 31).2.1.trans (by decide +kernel)
theorem sn_32 : (SH1 32).2.1 = 3 := (shE 32).2.1.trans (by decide +kernel)
theorem sn_33 : (SH1 33).2.1 = 3 := (shE 33).2.1.trans (by decide +kernel)
theorem sn_34 : (SH1 34).2.1 = 3 := (shE 34).2.1.trans (by decide +kernel)
theorem sn_35 : (SH1 35).2.1 = 3 := (shE 35).2.1.trans (by decide +kernel)
theorem sn_36 : (SH1 36).2.1 = 3 := (shE 36).2.1.trans (by decide +kernel)
theorem sn_37 : (SH1 37).2.1 = 3 := (shE 37).2.1.trans (by decide +kernel)
theorem sn_38 : (SH1 38).2.1 = 3 := (shE 38).2.1.trans (by decide +kernel)
theorem sn_39 : (SH1 39).2.1 = 3 := (shE 39).2.1.trans (by decide +kernel)
theorem sn_40 : (SH1 40).2.1 = 3 := (shE 40).2.1.trans (by decide +kernel)
theorem sn_41 : (SH1 41).2.1 = 3 := (shE 41).2.1.trans (by decide +kernel)
theorem sn_42 : (SH1 42).2.1 = 3 := (shE 42).2.1.trans (by decide +kernel)
theorem sn_45 : (SH1 45).2.1 = 5 := (shE 45).2.1.trans (by decide +kernel)
theorem sn_46 : (SH1 46).2.1 = 144 := (shE 46).2.1.trans (by decide +kernel)
theorem sn_47 : (SH1 47).2.1 = 144 := (shE 47).2.1.trans (by decide +kernel)
theorem sn_48 : (SH1 48).2.1 = 144 := (shE 48).2.1.trans (by decide +kernel)
theorem sn_49 : (SH1 49).2.1 = 144 := (shE 49).2.1.trans (by decide +kernel)
theorem sn_50 : (SH1 50).2.1 = 144 := (shE 50).2.1.trans (by decide +kernel)
theorem sn_51 : (SH1 51).2.1 = 144 := (shE 51).2.1.trans (by decide +kernel)
theorem sn_52 : (SH1 52).2.1 = 144 := (shE 52).2.1.trans (by decide +kernel)
theorem sn_53 : (SH1 53).2.1 = 144 := (shE 53).2.1.trans (by decide +kernel)
theorem sn_54 : (SH1 54).2.1 = 144 := (shE 54).2.1.trans (by decide +kernel)
theorem sn_55 : (SH1 55).2.1 = 144 := (shE 55).2.1.trans (by decide +kernel)
theorem sn_56 : (SH1 56).2.1 = 144 := (shE 56).2.1.trans (by decide +kernel)
theorem sn_57 : (SH1 57).2.1 = 144 := (shE 57).2.1.trans (by decide +kernel)
theorem sn_59 : (SH1 59).2.1 = 5 := (shE 59).2.1.trans (by decide +kernel)
theorem sn_60 : (SH1 60).2.1 = 144 := (shE 60).2.1.trans (by decide +kernel)
theorem sn_61 : (SH1 61).2.1 = 144 := (shE 61).2.1.trans (by decide +kernel)
theorem sn_62 : (SH1 62).2.1 = 144 := (shE 62).2.1.trans (by decide +kernel)
theorem sn_63 : (SH1 63).2.1 = 144 := (shE 63).2.1.trans (by decide +kernel)
theorem sn_64 : (SH1 64).2.1 = 144 := (shE 64).2.1.trans (by decide +kernel)
theorem sn_66 : (SH1 66).2.1 = 5 := (shE 66).2.1.trans (by decide +kernel)
theorem sn_67 : (SH1 67).2.1 = 144 := (shE 67).2.1.trans (by decide +kernel)
theorem sn_68 : (SH1 68).2.1 = 144 := (shE 68).2.1.trans (by decide +kernel)
theorem sn_69 : (SH1 69).2.1 = 144 := (shE 69).2.1.trans (by decide +kernel)
theorem sn_70 : (SH1 70).2.1 = 144 := (shE 70).2.1.trans (by decide +kernel)
theorem sn_71 : (SH1 71).2.1 = 144 := (shE 71).2.1.trans (by decide +kernel)
theorem sn_73 : (SH1 73).2.1 = 5 := (shE 73).2.1.trans (by decide +kernel)
theorem sn_74 : (SH1 74).2.1 = 144 := (shE 74).2.1.trans (by decide +kernel)
theorem sn_75 : (SH1 75).2.1 = 144 := (shE 75).2.1.trans (by decide +kernel)
theorem sn_76 : (SH1 76).2.1 = 144 := (shE 76).2.1.trans (by decide +kernel)
theorem sn_77 : (SH1 77).2.1 = 144 := (shE 77).2.1.trans (by decide +kernel)
theorem sn_78 : (SH1 78).2.1 = 144 := (shE 78).2.1.trans (by decide +kernel)
theorem sn_80 : (SH1 80).2.1 = 5 := (shE 80).2.1.trans (by decide +kernel)
theorem sn_81 : (SH1 81).2.1 = 144 := (shE 81).2.1.trans (by decide +kernel)
theorem sn_82 : (SH1 82).2.1 = 144 := (shE 82).2.1.trans (by decide +kernel)
theorem sn_83 : (SH1 83).2.1 = 144 := (shE 83).2.1.trans (by decide +kernel)
theorem sn_84 : (SH1 84).2.1 = 144 := (shE 84).2.1.trans (by decide +kernel)
theorem sn_85 : (SH1 85).2.1 = 144 := (shE 85).2.1.trans (by decide +kernel)
theorem sn_87 : (SH1 87).2.1 = 5 := (shE 87).2.1.trans (by decide +kernel)
theorem sn_88 : (SH1 88).2.1 = 144 := (shE 88).2.1.trans (by decide +kernel)
theorem sn_89 : (SH1 89).2.1 = 144 := (shE 89).2.1.trans (by decide +kernel)
theorem sn_90 : (SH1 90).2.1 = 144 := (shE 90).2.1.trans (by decide +kernel)
theorem sn_91 : (SH1 91).2.1 = 144 := (shE 91).2.1.trans (by decide +kernel)
theorem sn_92 : (SH1 92).2.1 = 144 := (shE 92).2.1.trans (by decide +kernel)
theorem sn_94 : (SH1 94).2.1 = 5 := (shE 94).2.1.trans (by decide +kernel)
theorem sn_95 : (SH1 95).2.1 = 144 := (shE 95).2.1.trans (by decide +kernel)
theorem sn_96 : (SH1 96).2.1 = 144 := (shE 96).2.1.trans (by decide +kernel)
theorem sn_97 : (SH1 97).2.1 = 144 := (shE 97).2.1.trans (by decide +kernel)
theorem sn_98 : (SH1 98).2.1 = 144 := (shE 98).2.1.trans (by decide +kernel)
theorem sn_99 : (SH1 99).2.1 = 144 := (shE 99).2.1.trans (by decide +kernel)
theorem sn_100 : (SH1 100).2.1 = 2 := (shE 100).2.1.trans (by decide +kernel)
theorem sn_103 : (SH1 103).2.1 = 8 := (shE 103).2.1.trans (by decide +kernel)
theorem sn_104 : (SH1 104).2.1 = 8 := (shE 104).2.1.trans (by decide +kernel)
theorem sn_105 : (SH1 105).2.1 = 8 := (shE 105).2.1.trans (by decide +kernel)
theorem sn_106 : (SH1 106).2.1 = 144 := (shE 106).2.1.trans (by decide +kernel)
theorem sn_107 : (SH1 107).2.1 = 144 := (shE 107).2.1.trans (by decide +kernel)
theorem sn_108 : (SH1 108).2.1 = 8 := (shE 108).2.1.trans (by decide +kernel)
theorem sn_109 : (SH1 109).2.1 = 8 := (shE 109).2.1.trans (by decide +kernel)
theorem sn_110 : (SH1 110).2.1 = 12 := (shE 110).2.1.trans (by decide +kernel)
theorem sn_111 : (SH1 111).2.1 = 4 := (shE 111).2.1.trans (by decide +kernel)
theorem sn_112 : (SH1 112).2.1 = 4 := (shE 112).2.1.trans (by decide +kernel)
theorem sn_113 : (SH1 113).2.1 = 4 := (shE 113).2.1.trans (by decide +kernel)
theorem sn_114 : (SH1 114).2.1 = 4 := (shE 114).2.1.trans (by decide +kernel)
theorem sn_115 : (SH1 115).2.1 = 4 := (shE 115).2.1.trans (by decide +kernel)
theorem sn_116 : (SH1 116).2.1 = 4 := (shE 116).2.1.trans (by decide +kernel)
theorem sn_117 : (SH1 117).2.1 = 4 := (shE 117).2.1.trans (by decide +kernel)
theorem sn_118 : (SH1 118).2.1 = 4 := (shE 118).2.1.trans (by decide +kernel)
theorem sn_119 : (SH1 119).2.1 = 4 := (shE 119).2.1.trans (by decide +kernel)
theorem sn_120 : (SH1 120).2.1 = 4 := (shE 120).2.1.trans (by decide +kernel)
theorem sn_121 : (SH1 121).2.1 = 4 := (shE 121).2.1.trans (by decide +kernel)
theorem sn_122 : (SH1 122).2.1 = 4 := (shE 122).2.1.trans (by decide +kernel)
theorem sn_125 : (SH1 125).2.1 = 5 := (shE 125).2.1.trans (by decide +kernel)
theorem sn_126 : (SH1 126).2.1 = 144 := (shE 126).2.1.trans (by decide +kernel)
theorem sn_127 : (SH1 127).2.1 = 144 := (shE 127).2.1.trans (by decide +kernel)
theorem sn_128 : (SH1 128).2.1 = 144 := (shE 128).2.1.trans (by decide +kernel)
theorem sn_129 : (SH1 129).2.1 = 144 := (shE 129).2.1.trans (by decide +kernel)
theorem sn_130 : (SH1 130).2.1 = 144 := (shE 130).2.1.trans (by decide +kernel)
theorem sn_133 : (SH1 133).2.1 = 30 := (shE 133).2.1.trans (by decide +kernel)
theorem sn_134 : (SH1 134).2.1 = 3 := (shE 134).2.1.trans (by decide +kernel)
theorem sn_135 : (SH1 135).2.1 = 3 := (shE 135).2.1.trans (by decide +kernel)
theorem sn_136 : (SH1 136).2.1 = 3 := (shE 136).2.1.trans (by decide +kernel)
theorem sn_137 : (SH1 137).2.1 = 3 := (shE 137).2.1.trans (by decide +kernel)
theorem sn_138 : (SH1 138).2.1 = 3 := (shE 138).2.1.trans (by decide +kernel)
theorem sn_139 : (SH1 139).2.1 = 3 := (shE 139).2.1.trans (by decide +kernel)
theorem sn_140 : (SH1 140).2.1 = 3 := (shE 140).2.1.trans (by decide +kernel)
theorem sn_141 : (SH1 141).2.1 = 3 := (shE 141).2.1.trans (by decide +kernel)
theorem sn_142 : (SH1 142).2.1 = 3 := (shE 142).2.1.trans (by decide +kernel)
theorem sn_143 : (SH1 143).2.1 = 3 := (shE 143).2.1.trans (by decide +kernel)
theorem sn_144 : (SH1 144).2.1 = 3 := (shE 144).2.1.trans (by decide +kernel)
theorem sn_145 : (SH1 145).2.1 = 3 := (shE 145).2.1.trans (by decide +kernel)
theorem sn_146 : (SH1 146).2.1 = 3 := (shE 146).2.1.trans (by decide +kernel)
theorem sn_147 : (SH1 147).2.1 = 3 := (shE 147).2.1.trans (by decide +kernel)
theorem sn_148 : (SH1 148).2.1 = 3 := (shE 148).2.1.trans (by decide +kernel)
theorem sn_149 : (SH1 149).2.1 = 3 := (shE 149).2.1.trans (by decide +kernel)
theorem sn_150 : (SH1 150).2.1 = 3 := (shE 150).2.1.trans (by decide +kernel)
theorem sn_151 : (SH1 151).2.1 = 3 := (shE 151).2.1.trans (by decide +kernel)
theorem sn_152 : (SH1 152).2.1 = 3 := (shE 152).2.1.trans (by decide +kernel)
theorem sn_153 : (SH1 153).2.1 = 3 := (shE 153).2.1.trans (by decide +kernel)
theorem sn_154 : (SH1 154).2.1 = 3 := (shE 154).2.1.trans (by decide +kernel)
theorem sn_155 : (SH1 155).2.1 = 3 := (shE 155).2.1.trans (by decide +kernel)
theorem sn_156 : (SH1 156).2.1 = 3 := (shE 156).2.1.trans (by decide +kernel)
theorem sn_157 : (SH1 157).2.1 = 3 := (shE 157).2.1.trans (by decide +kernel)
theorem sn_158 : (SH1 158).2.1 = 3 := (shE 158).2.1.trans (by decide +kernel)
theorem sn_159 : (SH1 159).2.1 = 3 := (shE 159).2.1.trans (by decide +kernel)
theorem sn_160 : (SH1 160).2.1 = 3 := (shE 160).2.1.trans (by decide +kernel)
theorem sn_161 : (SH1 161).2.1 = 3 := (shE 161).2.1.trans (by decide +kernel)
theorem sn_162 : (SH1 162).2.1 = 3 := (shE 162).2.1.trans (by decide +kernel)
theorem sn_163 : (SH1 163).2.1 = 3 := (shE 163).2.1.trans (by decide +kernel)
theorem sn_166 : (SH1 166).2.1 = 5 := (shE 166).2.1.trans (by decide +kernel)
theorem sn_167 : (SH1 167).2.1 = 144 := (shE 167).2.1.trans (by decide +kernel)
theorem sn_168 : (SH1 168).2.1 = 144 := (shE 168).2.1.trans (by decide +kernel)
theorem sn_169 : (SH1 169).2.1 = 144 := (shE 169).2.1.trans (by decide +kernel)
theorem sn_170 : (SH1 170).2.1 = 144 := (shE 170).2.1.trans (by decide +kernel)
theorem sn_171 : (SH1 171).2.1 = 144 := (shE 171).2.1.trans (by decide +kernel)
theorem sn_172 : (SH1 172).2.1 = 144 := (shE 172).2.1.trans (by decide +kernel)
theorem sn_173 : (SH1 173).2.1 = 144 := (shE 173).2.1.trans (by decide +kernel)
theorem sn_174 : (SH1 174).2.1 = 144 := (shE 174).2.1.trans (by decide +kernel)
theorem sn_175 : (SH1 175).2.1 = 144 := (shE 175).2.1.trans (by decide +kernel)
theorem sn_176 : (SH1 176).2.1 = 144 := (shE 176).2.1.trans (by decide +kernel)
theorem sn_177 : (SH1 177).2.1 = 144 := (shE 177).2.1.trans (by decide +kernel)
theorem sn_178 : (SH1 178).2.1 = 144 := (shE 178).2.1.trans (by decide +kernel)
theorem sn_181 : (SH1 181).2.1 = 5 := (shE 181).2.1.trans (by decide +kernel)
theorem sn_182 : (SH1 182).2.1 = 144 := (shE 182).2.1.trans (by decide +kernel)
theorem sn_183 : (SH1 183).2.1 = 144 := (shE 183).2.1.trans (by decide +kernel)
theorem sn_184 : (SH1 184).2.1 = 144 := (shE 184).2.1.trans (by decide +kernel)
theorem sn_185 : (SH1 185).2.1 = 144 := (shE 185).2.1.trans (by decide +kernel)
theorem sn_186 : (SH1 186).2.1 = 144 := (shE 186).2.1.trans (by decide +kernel)
theorem sn_187 : (SH1 187).2.1 = 144 := (shE 187).2.1.trans (by decide +kernel)
theorem sn_188 : (SH1 188).2.1 = 144 := (shE 188).2.1.trans (by decide +kernel)
theorem sn_189 : (SH1 189).2.1 = 144 := (shE 189).2.1.trans (by decide +kernel)
theorem sn_190 : (SH1 190).2.1 = 144 := (shE 190).2.1.trans (by decide +kernel)
theorem sn_191 : (SH1 191).2.1 = 144 := (shE 191).2.1.trans (by decide +kernel)
theorem sn_192 : (SH1 192).2.1 = 144 := (shE 192).2.1.trans (by decide +kernel)
theorem sn_193 : (SH1 193).2.1 = 144 := (shE 193).2.1.trans (by decide +kernel)
theorem sn_195 : (SH1 195).2.1 = 144 := (shE 195).2.1.trans (by decide +kernel)
theorem sn_196 : (SH1 196).2.1 = 144 := (shE 196).2.1.trans (by decide +kernel)
theorem sn_197 : (SH1 197).2.1 = 144 := (shE 197).2.1.trans (by decide +kernel)
theorem sn_198 : (SH1 198).2.1 = 144 := (shE 198).2.1.trans (by decide +kernel)
theorem sn_199 : (SH1 199).2.1 = 144 := (shE 199).2.1.trans (by decide +kernel)
theorem sn_200 : (SH1 200).2.1 = 144 := (shE 200).2.1.trans (by decide +kernel)
theorem sn_202 : (SH1 202).2.1 = 144 := (shE 202).2.1.trans (by decide +kernel)
theorem sn_203 : (SH1 203).2.1 = 8 := (shE 203).2.1.trans (by decide +kernel)
theorem sn_204 : (SH1 204).2.1 = 3 := (shE 204).2.1.trans (by decide +kernel)
theorem sn_205 : (SH1 205).2.1 = 8 := (shE 205).2.1.trans (by decide +kernel)
theorem sn_206 : (SH1 206).2.1 = 8 := (shE 206).2.1.trans (by decide +kernel)
theorem sn_207 : (SH1 207).2.1 = 8 := (shE 207).2.1.trans (by decide +kernel)
theorem sn_208 : (SH1 208).2.1 = 5 := (shE 208).2.1.trans (by decide +kernel)
theorem sn_209 : (SH1 209).2.1 = 3 := (shE 209).2.1.trans (by decide +kernel)
theorem sn_212 : (SH1 212).2.1 = 8 := (shE 212).2.1.trans (by decide +kernel)
theorem sn_213 : (SH1 213).2.1 = 8 := (shE 213).2.1.trans (by decide +kernel)
theorem sn_214 : (SH1 214).2.1 = 8 := (shE 214).2.1.trans (by decide +kernel)
theorem sn_215 : (SH1 215).2.1 = 144 := (shE 215).2.1.trans (by decide +kernel)
theorem sn_216 : (SH1 216).2.1 = 144 := (shE 216).2.1.trans (by decide +kernel)
theorem sn_217 : (SH1 217).2.1 = 6 := (shE 217).2.1.trans (by decide +kernel)
theorem sn_219 : (SH1 219).2.1 = 30 := (shE 219).2.1.trans (by decide +kernel)
theorem sn_220 : (SH1 220).2.1 = 3 := (shE 220).2.1.trans (by decide +kernel)
theorem sn_221 : (SH1 221).2.1 = 3 := (shE 221).2.1.trans (by decide +kernel)
theorem sn_222 : (SH1 222).2.1 = 3 := (shE 222).2.1.trans (by decide +kernel)
theorem sn_223 : (SH1 223).2.1 = 3 := (shE 223).2.1.trans (by decide +kernel)
theorem sn_224 : (SH1 224).2.1 = 3 := (shE 224).2.1.trans (by decide +kernel)
theorem sn_225 : (SH1 225).2.1 = 3 := (shE 225).2.1.trans (by decide +kernel)
theorem sn_226 : (SH1 226).2.1 = 3 := (shE 226).2.1.trans (by decide +kernel)
theorem sn_227 : (SH1 227).2.1 = 3 := (shE 227).2.1.trans (by decide +kernel)
theorem sn_228 : (SH1 228).2.1 = 3 := (shE 228).2.1.trans (by decide +kernel)
theorem sn_229 : (SH1 229).2.1 = 3 := (shE 229).2.1.trans (by decide +kernel)
theorem sn_230 : (SH1 230).2.1 = 3 := (shE 230).2.1.trans (by decide +kernel)
theorem sn_231 : (SH1 231).2.1 = 3 := (shE 231).2.1.trans (by decide +kernel)
theorem sn_232 : (SH1 232).2.1 = 3 := (shE 232).2.1.trans (by decide +kernel)
theorem sn_233 : (SH1 233).2.1 = 3 := (shE 233).2.1.trans (by decide +kernel)
theorem sn_234 : (SH1 234).2.1 = 3 := (shE 234).2.1.trans (by decide +kernel)
theorem sn_235 : (SH1 235).2.1 = 3 := (shE 235).2.1.trans (by decide +kernel)
theorem sn_236 : (SH1 236).2.1 = 3 := (shE 236).2.1.trans (by decide +kernel)
theorem sn_237 : (SH1 237).2.1 = 3 := (shE 237).2.1.trans (by decide +kernel)
theorem sn_238 : (SH1 238).2.1 = 3 := (shE 238).2.1.trans (by decide +kernel)
theorem sn_239 : (SH1 239).2.1 = 3 := (shE 239).2.1.trans (by decide +kernel)
theorem sn_240 : (SH1 240).2.1 = 3 := (shE 240).2.1.trans (by decide +kernel)
theorem sn_241 : (SH1 241).2.1 = 3 := (shE 241).2.1.trans (by decide +kernel)
theorem sn_242 : (SH1 242).2.1 = 3 := (shE 242).2.1.trans (by decide +kernel)
theorem sn_243 : (SH1 243).2.1 = 3 := (shE 243).2.1.trans (by decide +kernel)
theorem sn_244 : (SH1 244).2.1 = 3 := (shE 244).2.1.trans (by decide +kernel)
theorem sn_245 : (SH1 245).2.1 = 3 := (shE 245).2.1.trans (by decide +kernel)
theorem sn_246 : (SH1 246).2.1 = 3 := (shE 246).2.1.trans (by decide +kernel)
theorem sn_247 : (SH1 247).2.1 = 3 := (shE 247).2.1.trans (by decide +kernel)
theorem sn_248 : (SH1 248).2.1 = 3 := (shE 248).2.1.trans (by decide +kernel)
theorem sn_249 : (SH1 249).2.1 = 3 := (shE 249).2.1.trans (by decide +kernel)
theorem sn_252 : (SH1 252).2.1 = 5 := (shE 252).2.1.trans (by decide +kernel)
theorem sn_253 : (SH1 253).2.1 = 144 := (shE 253).2.1.trans (by decide +kernel)
theorem sn_254 : (SH1 254).2.1 = 144 := (shE 254).2.1.trans (by decide +kernel)
theorem sn_255 : (SH1 255).2.1 = 144 := (shE 255).2.1.trans (by decide +kernel)
theorem sn_256 : (SH1 256).2.1 = 144 := (shE 256).2.1.trans (by decide +kernel)
theorem sn_257 : (SH1 257).2.1 = 144 := (shE 257).2.1.trans (by decide +kernel)
theorem sn_258 : (SH1 258).2.1 = 144 := (shE 258).2.1.trans (by decide +kernel)
theorem sn_259 : (SH1 259).2.1 = 144 := (shE 259).2.1.trans (by decide +kernel)
theorem sn_260 : (SH1 260).2.1 = 144 := (shE 260).2.1.trans (by decide +kernel)
theorem sn_261 : (SH1 261).2.1 = 144 := (shE 261).2.1.trans (by decide +kernel)
theorem sn_262 : (SH1 262).2.1 = 144 := (shE 262).2.1.trans (by decide +kernel)
theorem sn_263 : (SH1 263).2.1 = 144 := (shE 263).2.1.trans (by decide +kernel)
theorem sn_264 : (SH1 264).2.1 = 144 := (shE 264).2.1.trans (by decide +kernel)
theorem sn_266 : (SH1 266).2.1 = 5 := (shE 266).2.1.trans (by decide +kernel)
theorem sn_267 : (SH1 267).2.1 = 144 := (shE 267).2.1.trans (by decide +kernel)
theorem sn_268 : (SH1 268).2.1 = 144 := (shE 268).2.1.trans (by decide +kernel)
theorem sn_269 : (SH1 269).2.1 = 144 := (shE 269).2.1.trans (by decide +kernel)
theorem sn_270 : (SH1 270).2.1 = 144 := (shE 270).2.1.trans (by decide +kernel)
theorem sn_271 : (SH1 271).2.1 = 144 := (shE 271).2.1.trans (by decide +kernel)
theorem sn_273 : (SH1 273).2.1 = 5 := (shE 273).2.1.trans (by decide +kernel)
theorem sn_274 : (SH1 274).2.1 = 144 := (shE 274).2.1.trans (by decide +kernel)
theorem sn_275 : (SH1 275).2.1 = 144 := (shE 275).2.1.trans (by decide +kernel)
theorem sn_276 : (SH1 276).2.1 = 144 := (shE 276).2.1.trans (by decide +kernel)
theorem sn_277 : (SH1 277).2.1 = 144 := (shE 277).2.1.trans (by decide +kernel)
theorem sn_278 : (SH1 278).2.1 = 144 := (shE 278).2.1.trans (by decide +kernel)
theorem sn_280 : (SH1 280).2.1 = 5 := (shE 280).2.1.trans (by decide +kernel)
theorem sn_281 : (SH1 281).2.1 = 144 := (shE 281).2.1.trans (by decide +kernel)
theorem sn_282 : (SH1 282).2.1 = 144 := (shE 282).2.1.trans (by decide +kernel)
theorem sn_283 : (SH1 283).2.1 = 144 := (shE 283).2.1.trans (by decide +kernel)
theorem sn_284 : (SH1 284).2.1 = 144 := (shE 284).2.1.trans (by decide +kernel)
theorem sn_285 : (SH1 285).2.1 = 144 := (shE 285).2.1.trans (by decide +kernel)
theorem sn_287 : (SH1 287).2.1 = 5 := (shE 287).2.1.trans (by decide +kernel)
theorem sn_288 : (SH1 288).2.1 = 144 := (shE 288).2.1.trans (by decide +kernel)
theorem sn_289 : (SH1 289).2.1 = 144 := (shE 289).2.1.trans (by decide +kernel)
theorem sn_290 : (SH1 290).2.1 = 144 := (shE 290).2.1.trans (by decide +kernel)
theorem sn_291 : (SH1 291).2.1 = 144 := (shE 291).2.1.trans (by decide +kernel)
theorem sn_292 : (SH1 292).2.1 = 144 := (shE 292).2.1.trans (by decide +kernel)
theorem sn_294 : (SH1 294).2.1 = 5 := (shE 294).2.1.trans (by decide +kernel)
theorem sn_295 : (SH1 295).2.1 = 144 := (shE 295).2.1.trans (by decide +kernel)
theorem sn_296 : (SH1 296).2.1 = 144 := (shE 296).2.1.trans (by decide +kernel)
theorem sn_297 : (SH1 297).2.1 = 144 := (shE 297).2.1.trans (by decide +kernel)
theorem sn_298 : (SH1 298).2.1 = 144 := (shE 298).2.1.trans (by decide +kernel)
theorem sn_299 : (SH1 299).2.1 = 144 := (shE 299).2.1.trans (by decide +kernel)
theorem sn_301 : (SH1 301).2.1 = 5 := (shE 301).2.1.trans (by decide +kernel)
theorem sn_302 : (SH1 302).2.1 = 144 := (shE 302).2.1.trans (by decide +kernel)
theorem sn_303 : (SH1 303).2.1 = 144 := (shE 303).2.1.trans (by decide +kernel)
theorem sn_304 : (SH1 304).2.1 = 144 := (shE 304).2.1.trans (by decide +kernel)
theorem sn_305 : (SH1 305).2.1 = 144 := (shE 305).2.1.trans (by decide +kernel)
theorem sn_306 : (SH1 306).2.1 = 144 := (shE 306).2.1.trans (by decide +kernel)
theorem sn_309 : (SH1 309).2.1 = 8 := (shE 309).2.1.trans (by decide +kernel)
theorem sn_310 : (SH1 310).2.1 = 8 := (shE 310).2.1.trans (by decide +kernel)
theorem sn_311 : (SH1 311).2.1 = 8 := (shE 311).2.1.trans (by decide +kernel)
theorem sn_312 : (SH1 312).2.1 = 144 := (shE 312).2.1.trans (by decide +kernel)
theorem sn_313 : (SH1 313).2.1 = 144 := (shE 313).2.1.trans (by decide +kernel)
theorem sn_314 : (SH1 314).2.1 = 6 := (shE 314).2.1.trans (by decide +kernel)
theorem sn_316 : (SH1 316).2.1 = 30 := (shE 316).2.1.trans (by decide +kernel)
theorem sn_317 : (SH1 317).2.1 = 3 := (shE 317).2.1.trans (by decide +kernel)
theorem sn_318 : (SH1 318).2.1 = 3 := (shE 318).2.1.trans (by decide +kernel)
theorem sn_319 : (SH1 319).2.1 = 3 := (shE 319).2.1.trans (by decide +kernel)
theorem sn_320 : (SH1 320).2.1 = 3 := (shE 320).2.1.trans (by decide +kernel)
theorem sn_321 : (SH1 321).2.1 = 3 := (shE 321).2.1.trans (by decide +kernel)
theorem sn_322 : (SH1 322).2.1 = 3 := (shE 322).2.1.trans (by decide +kernel)
theorem sn_323 : (SH1 323).2.1 = 3 := (shE 323).2.1.trans (by decide +kernel)
theorem sn_324 : (SH1 324).2.1 = 3 := (shE 324).2.1.trans (by decide +kernel)
theorem sn_325 : (SH1 325).2.1 = 3 := (shE 325).2.1.trans (by decide +kernel)
theorem sn_326 : (SH1 326).2.1 = 3 := (shE 326).2.1.trans (by decide +kernel)
theorem sn_327 : (SH1 327).2.1 = 3 := (shE 327).2.1.trans (by decide +kernel)
theorem sn_328 : (SH1 328).2.1 = 3 := (shE 328).2.1.trans (by decide +kernel)
theorem sn_329 : (SH1 329).2.1 = 3 := (shE 329).2.1.trans (by decide +kernel)
theorem sn_330 : (SH1 330).2.1 = 3 := (shE 330).2.1.trans (by decide +kernel)
theorem sn_331 : (SH1 331).2.1 = 3 := (shE 331).2.1.trans (by decide +kernel)
theorem sn_332 : (SH1 332).2.1 = 3 := (shE 332).2.1.trans (by decide +kernel)
theorem sn_333 : (SH1 333).2.1 = 3 := (shE 333).2.1.trans (by decide +kernel)
theorem sn_334 : (SH1 334).2.1 = 3 := (shE 334).2.1.trans (by decide +kernel)
theorem sn_335 : (SH1 335).2.1 = 3 := (shE 335).2.1.trans (by decide +kernel)
theorem sn_336 : (SH1 336).2.1 = 3 := (shE 336).2.1.trans (by decide +kernel)
theorem sn_337 : (SH1 337).2.1 = 3 := (shE 337).2.1.trans (by decide +kernel)
theorem sn_338 : (SH1 338).2.1 = 3 := (shE 338).2.1.trans (by decide +kernel)
theorem sn_339 : (SH1 339).2.1 = 3 := (shE 339).2.1.trans (by decide +kernel)
theorem sn_340 : (SH1 340).2.1 = 3 := (shE 340).2.1.trans (by decide +kernel)
theorem sn_341 : (SH1 341).2.1 = 3 := (shE 341).2.1.trans (by decide +kernel)
theorem sn_342 : (SH1 342).2.1 = 3 := (shE 342).2.1.trans (by decide +kernel)
theorem sn_343 : (SH1 343).2.1 = 3 := (shE 343).2.1.trans (by decide +kernel)
theorem sn_344 : (SH1 344).2.1 = 3 := (shE 344).2.1.trans (by decide +kernel)
theorem sn_345 : (SH1 345).2.1 = 3 := (shE 345).2.1.trans (by decide +kernel)
theorem sn_346 : (SH1 346).2.1 = 3 := (shE 346).2.1.trans (by decide +kernel)
theorem sn_349 : (SH1 349).2.1 = 5 := (shE 349).2.1.trans (by decide +kernel)
theorem sn_350 : (SH1 350).2.1 = 144 := (shE 350).2.1.trans (by decide +kernel)
theorem sn_351 : (SH1 351).2.1 = 144 := (shE 351).2.1.trans (by decide +kernel)
theorem sn_352 : (SH1 352).2.1 = 144 := (shE 352).2.1.trans (by decide +kernel)
theorem sn_353 : (SH1 353).2.1 = 144 := (shE 353).2.1.trans (by decide +kernel)
theorem sn_354 : (SH1 354).2.1 = 144 := (shE 354).2.1.trans (by decide +kernel)
theorem sn_355 : (SH1 355).2.1 = 144 := (shE 355).2.1.trans (by decide +kernel)
theorem sn_356 : (SH1 356).2.1 = 144 := (shE 356).2.1.trans (by decide +kernel)
theorem sn_357 : (SH1 357).2.1 = 144 := (shE 357).2.1.trans (by decide +kernel)
theorem sn_358 : (SH1 358).2.1 = 144 := (shE 358).2.1.trans (by decide +kernel)
theorem sn_359 : (SH1 359).2.1 = 144 := (shE 359).2.1.trans (by decide +kernel)
theorem sn_360 : (SH1 360).2.1 = 144 := (shE 360).2.1.trans (by decide +kernel)
theorem sn_361 : (SH1 361).2.1 = 144 := (shE 361).2.1.trans (by decide +kernel)
theorem sn_363 : (SH1 363).2.1 = 5 := (shE 363).2.1.trans (by decide +kernel)
theorem sn_364 : (SH1 364).2.1 = 144 := (shE 364).2.1.trans (by decide +kernel)
theorem sn_365 : (SH1 365).2.1 = 144 := (shE 365).2.1.trans (by decide +kernel)
theorem sn_366 : (SH1 366).2.1 = 144 := (shE 366).2.1.trans (by decide +kernel)
theorem sn_367 : (SH1 367).2.1 = 144 := (shE 367).2.1.trans (by decide +kernel)
theorem sn_368 : (SH1 368).2.1 = 144 := (shE 368).2.1.trans (by decide +kernel)
theorem sn_370 : (SH1 370).2.1 = 5 := (shE 370).2.1.trans (by decide +kernel)
theorem sn_371 : (SH1 371).2.1 = 144 := (shE 371).2.1.trans (by decide +kernel)
theorem sn_372 : (SH1 372).2.1 = 144 := (shE 372).2.1.trans (by decide +kernel)
theorem sn_373 : (SH1 373).2.1 = 144 := (shE 373).2.1.trans (by decide +kernel)
theorem sn_374 : (SH1 374).2.1 = 144 := (shE 374).2.1.trans (by decide +kernel)
theorem sn_375 : (SH1 375).2.1 = 144 := (shE 375).2.1.trans (by decide +kernel)
theorem sn_377 : (SH1 377).2.1 = 5 := (shE 377).2.1.trans (by decide +kernel)
theorem sn_378 : (SH1 378).2.1 = 144 := (shE 378).2.1.trans (by decide +kernel)
theorem sn_379 : (SH1 379).2.1 = 144 := (shE 379).2.1.trans (by decide +kernel)
theorem sn_380 : (SH1 380).2.1 = 144 := (shE 380).2.1.trans (by decide +kernel)
theorem sn_381 : (SH1 381).2.1 = 144 := (shE 381).2.1.trans (by decide +kernel)
theorem sn_382 : (SH1 382).2.1 = 144 := (shE 382).2.1.trans (by decide +kernel)
theorem sn_384 : (SH1 384).2.1 = 5 := (shE 384).2.1.trans (by decide +kernel)
theorem sn_385 : (SH1 385).2.1 = 144 := (shE 385).2.1.trans (by decide +kernel)
theorem sn_386 : (SH1 386).2.1 = 144 := (shE 386).2.1.trans (by decide +kernel)
theorem sn_387 : (SH1 387).2.1 = 144 := (shE 387).2.1.trans (by decide +kernel)
theorem sn_388 : (SH1 388).2.1 = 144 := (shE 388).2.1.trans (by decide +kernel)
theorem sn_389 : (SH1 389).2.1 = 144 := (shE 389).2.1.trans (by decide +kernel)
theorem sn_391 : (SH1 391).2.1 = 5 := (shE 391).2.1.trans (by decide +kernel)
theorem sn_392 : (SH1 392).2.1 = 144 := (shE 392).2.1.trans (by decide +kernel)
theorem sn_393 : (SH1 393).2.1 = 144 := (shE 393).2.1.trans (by decide +kernel)
theorem sn_394 : (SH1 394).2.1 = 144 := (shE 394).2.1.trans (by decide +kernel)
theorem sn_395 : (SH1 395).2.1 = 144 := (shE 395).2.1.trans (by decide +kernel)
theorem sn_396 : (SH1 396).2.1 = 144 := (shE 396).2.1.trans (by decide +kernel)
theorem sn_398 : (SH1 398).2.1 = 5 := (shE 398).2.1.trans (by decide +kernel)
theorem sn_399 : (SH1 399).2.1 = 144 := (shE 399).2.1.trans (by decide +kernel)
theorem sn_400 : (SH1 400).2.1 = 144 := (shE 400).2.1.trans (by decide +kernel)
theorem sn_401 : (SH1 401).2.1 = 144 := (shE 401).2.1.trans (by decide +kernel)
theorem sn_402 : (SH1 402).2.1 = 144 := (shE 402).2.1.trans (by decide +kernel)
theorem sn_403 : (SH1 403).2.1 = 144 := (shE 403).2.1.trans (by decide +kernel)
theorem sn_405 : (SH1 405).2.1 = 940 := (shE 405).2.1.trans (by decide +kernel)
theorem sn_406 : (SH1 406).2.1 = 1427 := (shE 406).2.1.trans (by decide +kernel)
theorem sn_407 : (SH1 407).2.1 = 221 := (shE 407).2.1.trans (by decide +kernel)
theorem sn_408 : (SH1 408).2.1 = 121 := (shE 408).2.1.trans (by decide +kernel)
theorem sn_409 : (SH1 409).2.1 = 16 := (shE 409).2.1.trans (by decide +kernel)
theorem sn_410 : (SH1 410).2.1 = 13 := (shE 410).2.1.trans (by decide +kernel)
theorem sn_411 : (SH1 411).2.1 = 144 := (shE 411).2.1.trans (by decide +kernel)
theorem sn_412 : (SH1 412).2.1 = 144 := (shE 412).2.1.trans (by decide +kernel)
theorem sn_413 : (SH1 413).2.1 = 144 := (shE 413).2.1.trans (by decide +kernel)
theorem sn_414 : (SH1 414).2.1 = 144 := (shE 414).2.1.trans (by decide +kernel)
theorem sn_415 : (SH1 415).2.1 = 144 := (shE 415).2.1.trans (by decide +kernel)
theorem sn_416 : (SH1 416).2.1 = 144 := (shE 416).2.1.trans (by decide +kernel)
theorem sn_417 : (SH1 417).2.1 = 144 := (shE 417).2.1.trans (by decide +kernel)
theorem sn_418 : (SH1 418).2.1 = 144 := (shE 418).2.1.trans (by decide +kernel)
theorem sn_419 : (SH1 419).2.1 = 144 := (shE 419).2.1.trans (by decide +kernel)
theorem sn_420 : (SH1 420).2.1 = 144 := (shE 420).2.1.trans (by decide +kernel)
theorem sn_421 : (SH1 421).2.1 = 5 := (shE 421).2.1.trans (by decide +kernel)
theorem sn_422 : (SH1 422).2.1 = 144 := (shE 422).2.1.trans (by decide +kernel)
theorem sn_423 : (SH1 423).2.1 = 144 := (shE 423).2.1.trans (by decide +kernel)
theorem sn_424 : (SH1 424).2.1 = 144 := (shE 424).2.1.trans (by decide +kernel)
theorem sn_425 : (SH1 425).2.1 = 144 := (shE 425).2.1.trans (by decide +kernel)
theorem sn_426 : (SH1 426).2.1 = 20736 := (shE 426).2.1.trans (by decide +kernel)
theorem sn_427 : (SH1 427).2.1 = 2 := (shE 427).2.1.trans (by decide +kernel)
theorem sn_428 : (SH1 428).2.1 = 8 := (shE 428).2.1.trans (by decide +kernel)
theorem sn_429 : (SH1 429).2.1 = 8 := (shE 429).2.1.trans (by decide +kernel)
theorem sn_430 : (SH1 430).2.1 = 24 := (shE 430).2.1.trans (by decide +kernel)
theorem sn_431 : (SH1 431).2.1 = 3 := (shE 431).2.1.trans (by decide +kernel)
theorem sn_432 : (SH1 432).2.1 = 2854 := (shE 432).2.1.trans (by decide +kernel)
theorem sn_433 : (SH1 433).2.1 = 2 := (shE 433).2.1.trans (by decide +kernel)
theorem sn_434 : (SH1 434).2.1 = 1 := (shE 434).2.1.trans (by decide +kernel)
theorem sr_0_0 : (SH1 0).2.2 0 = some 1 := ((shE 0).2.2 0).trans (by decide +kernel)
theorem sr_0_1 : (SH1 0).2.2 1 = some 3 := ((shE 0).2.2 1).trans (by decide +kernel)
theorem sr_0_2 : (SH1 0).2.2 2 = some 100 := ((shE 0).2.2 2).trans (by decide +kernel)
theorem sr_0_3 : (SH1 0).2.2 3 = some 101 := ((shE 0).2.2 3).trans (by decide +kernel)
theorem sr_0_4 : (SH1 0).2.2 4 = some 123 := ((shE 0).2.2 4).trans (by decide +kernel)
theorem sr_0_5 : (SH1 0).2.2 5 = some 131 := ((shE 0).2.2 5).trans (by decide +kernel)
theorem sr_0_6 : (SH1 0).2.2 6 = some 164 := ((shE 0).2.2 6).trans (by decide +kernel)
theorem sr_0_7 : (SH1 0).2.2 7 = some 179 := ((shE 0).2.2 7).trans (by decide +kernel)
theorem sr_0_8 : (SH1 0).2.2 8 = some 194 := ((shE 0).2.2 8).trans (by decide +kernel)
theorem sr_0_9 : (SH1 0).2.2 9 = some 201 := ((shE 0).2.2 9).trans (by decide +kernel)
theorem sr_0_10 : (SH1 0).2.2 10 = some 203 := ((shE 0).2.2 10).trans (by decide +kernel)
theorem sr_0_11 : (SH1 0).2.2 11 = some 204 := ((shE 0).2.2 11).trans (by decide +kernel)
theorem sr_0_12 : (SH1 0).2.2 12 = some 208 := ((shE 0).2.2 12).trans (by decide +kernel)
theorem sr_0_16 : (SH1 0).2.2 16 = some 209 := ((shE 0).2.2 16).trans (by decide +kernel)
theorem sr_1_0 : (SH1 1).2.2 0 = some 2 := ((shE 1).2.2 0).trans (by decide +kernel)
theorem sr_3_1 : (SH1 3).2.2 1 = some 4 := ((shE 3).2.2 1).trans (by decide +kernel)
theorem sr_3_2 : (SH1 3).2.2 2 = some 10 := ((shE 3).2.2 2).trans (by decide +kernel)
theorem sr_3_3 : (SH1 3).2.2 3 = some 11 := ((shE 3).2.2 3).trans (by decide +kernel)
theorem sr_3_4 : (SH1 3).2.2 4 = some 43 := ((shE 3).2.2 4).trans (by decide +kernel)
theorem sr_4_5 : (SH1 4).2.2 5 = some 5 := ((shE 4).2.2 5).trans (by decide +kernel)
theorem sr_4_6 : (SH1 4).2.2 6 = some 6 := ((shE 4).2.2 6).trans (by decide +kernel)
theorem sr_4_7 : (SH1 4).2.2 7 = some 7 := ((shE 4).2.2 7).trans (by decide +kernel)
theorem sr_4_8 : (SH1 4).2.2 8 = some 8 := ((shE 4).2.2 8).trans (by decide +kernel)
theorem sr_4_9 : (SH1 4).2.2 9 = some 9 := ((shE 4).2.2 9).trans (by decide +kernel)
theorem sr_10_0 : (SH1 10).2.2 0 = some 58 := ((shE 10).2.2 0).trans (by decide +kernel)
theorem sr_10_1 : (SH1 10).2.2 1 = some 65 := ((shE 10).2.2 1).trans (by decide +kernel)
theorem sr_10_2 : (SH1 10).2.2 2 = some 72 := ((shE 10).2.2 2).trans (by decide +kernel)
theorem sr_10_3 : (SH1 10).2.2 3 = some 79 := ((shE 10).2.2 3).trans (by decide +kernel)
theorem sr_10_4 : (SH1 10).2.2 4 = some 86 := ((shE 10).2.2 4).trans (by decide +kernel)
theorem sr_10_5 : (SH1 10).2.2 5 = some 93 := ((shE 10).2.2 5).trans (by decide +kernel)
theorem sr_11_1 : (SH1 11).2.2 1 = some 12 := ((shE 11).2.2 1).trans (by decide +kernel)
theorem sr_12_0 : (SH1 12).2.2 0 = some 13 := ((shE 12).2.2 0).trans (by decide +kernel)
theorem sr_12_1 : (SH1 12).2.2 1 = some 14 := ((shE 12).2.2 1).trans (by decide +kernel)
theorem sr_12_2 : (SH1 12).2.2 2 = some 15 := ((shE 12).2.2 2).trans (by decide +kernel)
theorem sr_12_3 : (SH1 12).2.2 3 = some 16 := ((shE 12).2.2 3).trans (by decide +kernel)
theorem sr_12_4 : (SH1 12).2.2 4 = some 17 := ((shE 12).2.2 4).trans (by decide +kernel)
theorem sr_12_5 : (SH1 12).2.2 5 = some 18 := ((shE 12).2.2 5).trans (by decide +kernel)
theorem sr_12_6 : (SH1 12).2.2 6 = some 19 := ((shE 12).2.2 6).trans (by decide +kernel)
theorem sr_12_7 : (SH1 12).2.2 7 = some 20 := ((shE 12).2.2 7).trans (by decide +kernel)
theorem sr_12_8 : (SH1 12).2.2 8 = some 21 := ((shE 12).2.2 8).trans (by decide +kernel)
theorem sr_12_9 : (SH1 12).2.2 9 = some 22 := ((shE 12).2.2 9).trans (by decide +kernel)
theorem sr_12_10 : (SH1 12).2.2 10 = some 23 := ((shE 12).2.2 10).trans (by decide +kernel)
theorem sr_12_11 : (SH1 12).2.2 11 = some 24 := ((shE 12).2.2 11).trans (by decide +kernel)
theorem sr_12_12 : (SH1 12).2.2 12 = some 25 := ((shE 12).2.2 12).trans (by decide +kernel)
theorem sr_12_13 : (SH1 12).2.2 13 = some 26 := ((shE 12).2.2 13).trans (by decide +kernel)
theorem sr_12_14 : (SH1 12).2.2 14 = some 27 := ((shE 12).2.2 14).trans (by decide +kernel)
theorem sr_12_15 : (SH1 12).2.2 15 = some 28 := ((shE 12).2.2 15).trans (by decide +kernel)
theorem sr_12_16 : (SH1 12).2.2 16 = some 29 := ((shE 12).2.2 16).trans (by decide +kernel)
theorem sr_12_17 : (SH1 12).2.2 17 = some 30 := ((shE 12).2.2 17).trans (by decide +kernel)
theorem sr_12_18 : (SH1 12).2.2 18 = some 31 := ((shE 12).2.2 18).trans (by decide +kernel)
theorem sr_12_19 : (SH1 12).2.2 19 = some 32 := ((shE 12).2.2 19).trans (by decide +kernel)
theorem sr_12_20 : (SH1 12).2.2 20 = some 33 := ((shE 12).2.2 20).trans (by decide +kernel)
theorem sr_12_21 : (SH1 12).2.2 21 = some 34 := ((shE 12).2.2 21).trans (by decide +kernel)
theorem sr_12_22 : (SH1 12).2.2 22 = some 35 := ((shE 12).2.2 22).trans (by decide +kernel)
theorem sr_12_23 : (SH1 12).2.2 23 = some 36 := ((shE 12).2.2 23).trans (by decide +kernel)
theorem sr_12_24 : (SH1 12).2.2 24 = some 37 := ((shE 12).2.2 24).trans (by decide +kernel)
theorem sr_12_25 : (SH1 12).2.2 25 = some 38 := ((shE 12).2.2 25).trans (by decide +kernel)
theorem sr_12_26 : (SH1 12).2.2 26 = some 39 := ((shE 12).2.2 26).trans (by decide +kernel)
theorem sr_12_27 : (SH1 12).2.2 27 = some 40 := ((shE 12).2.2 27).trans (by decide +kernel)
theorem sr_12_28 : (SH1 12).2.2 28 = some 41 := ((shE 12).2.2 28).trans (by decide +kernel)
theorem sr_12_29 : (SH1 12).2.2 29 = some 42 := ((shE 12).2.2 29).trans (by decide +kernel)
theorem sr_43_7 : (SH1 43).2.2 7 = some 44 := ((shE 43).2.2 7).trans (by decide +kernel)
theorem sr_43_8 : (SH1 43).2.2 8 = some 51 := ((shE 43).2.2 8).trans (by decide +kernel)
theorem sr_43_9 : (SH1 43).2.2 9 = some 52 := ((shE 43).2.2 9).trans (by decide +kernel)
theorem sr_43_10 : (SH1 43).2.2 10 = some 53 := ((shE 43).2.2 10).trans (by decide +kernel)
theorem sr_43_11 : (SH1 43).2.2 11 = some 54 := ((shE 43).2.2 11).trans (by decide +kernel)
theorem sr_43_12 : (SH1 43).2.2 12 = some 55 := ((shE 43).2.2 12).trans (by decide +kernel)
theorem sr_43_13 : (SH1 43).2.2 13 = some 56 := ((shE 43).2.2 13).trans (by decide +kernel)
theorem sr_43_14 : (SH1 43).2.2 14 = some 57 := ((shE 43).2.2 14).trans (by decide +kernel)
theorem sr_44_1 : (SH1 44).2.2 1 = some 45 := ((shE 44).2.2 1).trans (by decide +kernel)
theorem sr_45_0 : (SH1 45).2.2 0 = some 46 := ((shE 45).2.2 0).trans (by decide +kernel)
theorem sr_45_1 : (SH1 45).2.2 1 = some 47 := ((shE 45).2.2 1).trans (by decide +kernel)
theorem sr_45_2 : (SH1 45).2.2 2 = some 48 := ((shE 45).2.2 2).trans (by decide +kernel)
theorem sr_45_3 : (SH1 45).2.2 3 = some 49 := ((shE 45).2.2 3).trans (by decide +kernel)
theorem sr_45_4 : (SH1 45).2.2 4 = some 50 := ((shE 45).2.2 4).trans (by decide +kernel)
theorem sr_58_1 : (SH1 58).2.2 1 = some 59 := ((shE 58).2.2 1).trans (by decide +kernel)
theorem sr_59_0 : (SH1 59).2.2 0 = some 60 := ((shE 59).2.2 0).trans (by decide +kernel)
theorem sr_59_1 : (SH1 59).2.2 1 = some 61 := ((shE 59).2.2 1).trans (by decide +kernel)
theorem sr_59_2 : (SH1 59).2.2 2 = some 62 := ((shE 59).2.2 2).trans (by decide +kernel)
theorem sr_59_3 : (SH1 59).2.2 3 = some 63 := ((shE 59).2.2 3).trans (by decide +kernel)
theorem sr_59_4 : (SH1 59).2.2 4 = some 64 := ((shE 59).2.2 4).trans (by decide +kernel)
theorem sr_65_1 : (SH1 65).2.2 1 = some 66 := ((shE 65).2.2 1).trans (by decide +kernel)
theorem sr_66_0 : (SH1 66).2.2 0 = some 67 := ((shE 66).2.2 0).trans (by decide +kernel)
theorem sr_66_1 : (SH1 66).2.2 1 = some 68 := ((shE 66).2.2 1).trans (by decide +kernel)
theorem sr_66_2 : (SH1 66).2.2 2 = some 69 := ((shE 66).2.2 2).trans (by decide +kernel)
theorem sr_66_3 : (SH1 66).2.2 3 = some 70 := ((shE 66).2.2 3).trans (by decide +kernel)
theorem sr_66_4 : (SH1 66).2.2 4 = some 71 := ((shE 66).2.2 4).trans (by decide +kernel)
theorem sr_72_1 : (SH1 72).2.2 1 = some 73 := ((shE 72).2.2 1).trans (by decide +kernel)
theorem sr_73_0 : (SH1 73).2.2 0 = some 74 := ((shE 73).2.2 0).trans (by decide +kernel)
theorem sr_73_1 : (SH1 73).2.2 1 = some 75 := ((shE 73).2.2 1).trans (by decide +kernel)
theorem sr_73_2 : (SH1 73).2.2 2 = some 76 := ((shE 73).2.2 2).trans (by decide +kernel)
theorem sr_73_3 : (SH1 73).2.2 3 = some 77 := ((shE 73).2.2 3).trans (by decide +kernel)
theorem sr_73_4 : (SH1 73).2.2 4 = some 78 := ((shE 73).2.2 4).trans (by decide +kernel)
theorem sr_79_1 : (SH1 79).2.2 1 = some 80 := ((shE 79).2.2 1).trans (by decide +kernel)
theorem sr_80_0 : (SH1 80).2.2 0 = some 81 := ((shE 80).2.2 0).trans (by decide +kernel)
theorem sr_80_1 : (SH1 80).2.2 1 = some 82 := ((shE 80).2.2 1).trans (by decide +kernel)
theorem sr_80_2 : (SH1 80).2.2 2 = some 83 := ((shE 80).2.2 2).trans (by decide +kernel)
theorem sr_80_3 : (SH1 80).2.2 3 = some 84 := ((shE 80).2.2 3).trans (by decide +kernel)
theorem sr_80_4 : (SH1 80).2.2 4 = some 85 := ((shE 80).2.2 4).trans (by decide +kernel)
theorem sr_86_1 : (SH1 86).2.2 1 = some 87 := ((shE 86).2.2 1).trans (by decide +kernel)
theorem sr_87_0 : (SH1 87).2.2 0 = some 88 := ((shE 87).2.2 0).trans (by decide +kernel)
theorem sr_87_1 : (SH1 87).2.2 1 = some 89 := ((shE 87).2.2 1).trans (by decide +kernel)
theorem sr_87_2 : (SH1 87).2.2 2 = some 90 := ((shE 87).2.2 2).trans (by decide +kernel)
theorem sr_87_3 : (SH1 87).2.2 3 = some 91 := ((shE 87).2.2 3).trans (by decide +kernel)
theorem sr_87_4 : (SH1 87).2.2 4 = some 92 := ((shE 87).2.2 4).trans (by decide +kernel)
theorem sr_93_1 : (SH1 93).2.2 1 = some 94 := ((shE 93).2.2 1).trans (by decide +kernel)
theorem sr_94_0 : (SH1 94).2.2 0 = some 95 := ((shE 94).2.2 0).trans (by decide +kernel)
theorem sr_94_1 : (SH1 94).2.2 1 = some 96 := ((shE 94).2.2 1).trans (by decide +kernel)
theorem sr_94_2 : (SH1 94).2.2 2 = some 97 := ((shE 94).2.2 2).trans (by decide +kernel)
theorem sr_94_3 : (SH1 94).2.2 3 = some 98 := ((shE 94).2.2 3).trans (by decide +kernel)
theorem sr_94_4 : (SH1 94).2.2 4 = some 99 := ((shE 94).2.2 4).trans (by decide +kernel)
theorem sr_100_0 : (SH1 100).2.2 0 = some 210 := ((shE 100).2.2 0).trans (by decide +kernel)
theorem sr_100_1 : (SH1 100).2.2 1 = some 307 := ((shE 100).2.2 1).trans (by decide +kernel)
theorem sr_101_0 : (SH1 101).2.2 0 = some 102 := ((shE 101).2.2 0).trans (by decide +kernel)
theorem sr_101_1 : (SH1 101).2.2 1 = some 108 := ((shE 101).2.2 1).trans (by decide +kernel)
theorem sr_101_2 : (SH1 101).2.2 2 = some 109 := ((shE 101).2.2 2).trans (by decide +kernel)
theorem sr_101_3 : (SH1 101).2.2 3 = some 110 := ((shE 101).2.2 3).trans (by decide +kernel)
theorem sr_102_5 : (SH1 102).2.2 5 = some 103 := ((shE 102).2.2 5).trans (by decide +kernel)
theorem sr_102_6 : (SH1 102).2.2 6 = some 104 := ((shE 102).2.2 6).trans (by decide +kernel)
theorem sr_102_7 : (SH1 102).2.2 7 = some 105 := ((shE 102).2.2 7).trans (by decide +kernel)
theorem sr_102_8 : (SH1 102).2.2 8 = some 106 := ((shE 102).2.2 8).trans (by decide +kernel)
theorem sr_102_9 : (SH1 102).2.2 9 = some 107 := ((shE 102).2.2 9).trans (by decide +kernel)
theorem sr_110_0 : (SH1 110).2.2 0 = some 111 := ((shE 110).2.2 0).trans (by decide +kernel)
theorem sr_110_1 : (SH1 110).2.2 1 = some 112 := ((shE 110).2.2 1).trans (by decide +kernel)
theorem sr_110_2 : (SH1 110).2.2 2 = some 113 := ((shE 110).2.2 2).trans (by decide +kernel)
theorem sr_110_3 : (SH1 110).2.2 3 = some 114 := ((shE 110).2.2 3).trans (by decide +kernel)
theorem sr_110_4 : (SH1 110).2.2 4 = some 115 := ((shE 110).2.2 4).trans (by decide +kernel)
theorem sr_110_5 : (SH1 110).2.2 5 = some 116 := ((shE 110).2.2 5).trans (by decide +kernel)
theorem sr_110_6 : (SH1 110).2.2 6 = some 117 := ((shE 110).2.2 6).trans (by decide +kernel)
theorem sr_110_7 : (SH1 110).2.2 7 = some 118 := ((shE 110).2.2 7).trans (by decide +kernel)
theorem sr_110_8 : (SH1 110).2.2 8 = some 119 := ((shE 110).2.2 8).trans (by decide +kernel)
theorem sr_110_9 : (SH1 110).2.2 9 = some 120 := ((shE 110).2.2 9).trans (by decide +kernel)
theorem sr_110_10 : (SH1 110).2.2 10 = some 121 := ((shE 110).2.2 10).trans (by decide +kernel)
theorem sr_110_11 : (SH1 110).2.2 11 = some 122 := ((shE 110).2.2 11).trans (by decide +kernel)
theorem sr_123_0 : (SH1 123).2.2 0 = some 124 := ((shE 123).2.2 0).trans (by decide +kernel)
theorem sr_124_1 : (SH1 124).2.2 1 = some 125 := ((shE 124).2.2 1).trans (by decide +kernel)
theorem sr_125_0 : (SH1 125).2.2 0 = some 126 := ((shE 125).2.2 0).trans (by decide +kernel)
theorem sr_125_1 : (SH1 125).2.2 1 = some 127 := ((shE 125).2.2 1).trans (by decide +kernel)
theorem sr_125_2 : (SH1 125).2.2 2 = some 128 := ((shE 125).2.2 2).trans (by decide +kernel)
theorem sr_125_3 : (SH1 125).2.2 3 = some 129 := ((shE 125).2.2 3).trans (by decide +kernel)
theorem sr_125_4 : (SH1 125).2.2 4 = some 130 := ((shE 125).2.2 4).trans (by decide +kernel)
theorem sr_131_0 : (SH1 131).2.2 0 = some 132 := ((shE 131).2.2 0).trans (by decide +kernel)
theorem sr_132_1 : (SH1 132).2.2 1 = some 133 := ((shE 132).2.2 1).trans (by decide +kernel)
theorem sr_133_0 : (SH1 133).2.2 0 = some 134 := ((shE 133).2.2 0).trans (by decide +kernel)
theorem sr_133_1 : (SH1 133).2.2 1 = some 135 := ((shE 133).2.2 1).trans (by decide +kernel)
theorem sr_133_2 : (SH1 133).2.2 2 = some 136 := ((shE 133).2.2 2).trans (by decide +kernel)
theorem sr_133_3 : (SH1 133).2.2 3 = some 137 := ((shE 133).2.2 3).trans (by decide +kernel)
theorem sr_133_4 : (SH1 133).2.2 4 = some 138 := ((shE 133).2.2 4).trans (by decide +kernel)
theorem sr_133_5 : (SH1 133).2.2 5 = some 139 := ((shE 133).2.2 5).trans (by decide +kernel)
theorem sr_133_6 : (SH1 133).2.2 6 = some 140 := ((shE 133).2.2 6).trans (by decide +kernel)
theorem sr_133_7 : (SH1 133).2.2 7 = some 141 := ((shE 133).2.2 7).trans (by decide +kernel)
theorem sr_133_8 : (SH1 133).2.2 8 = some 142 := ((shE 133).2.2 8).trans (by decide +kernel)
theorem sr_133_9 : (SH1 133).2.2 9 = some 143 := ((shE 133).2.2 9).trans (by decide +kernel)
theorem sr_133_10 : (SH1 133).2.2 10 = some 144 := ((shE 133).2.2 10).trans (by decide +kernel)
theorem sr_133_11 : (SH1 133).2.2 11 = some 145 := ((shE 133).2.2 11).trans (by decide +kernel)
theorem sr_133_12 : (SH1 133).2.2 12 = some 146 := ((shE 133).2.2 12).trans (by decide +kernel)
theorem sr_133_13 : (SH1 133).2.2 13 = some 147 := ((shE 133).2.2 13).trans (by decide +kernel)
theorem sr_133_14 : (SH1 133).2.2 14 = some 148 := ((shE 133).2.2 14).trans (by decide +kernel)
theorem sr_133_15 : (SH1 133).2.2 15 = some 149 := ((shE 133).2.2 15).trans (by decide +kernel)
theorem sr_133_16 : (SH1 133).2.2 16 = some 150 := ((shE 133).2.2 16).trans (by decide +kernel)
theorem sr_133_17 : (SH1 133).2.2 17 = some 151 := ((shE 133).2.2 17).trans (by decide +kernel)
theorem sr_133_18 : (SH1 133).2.2 18 = some 152 := ((shE 133).2.2 18).trans (by decide +kernel)
theorem sr_133_19 : (SH1 133).2.2 19 = some 153 := ((shE 133).2.2 19).trans (by decide +kernel)
theorem sr_133_20 : (SH1 133).2.2 20 = some 154 := ((shE 133).2.2 20).trans (by decide +kernel)
theorem sr_133_21 : (SH1 133).2.2 21 = some 155 := ((shE 133).2.2 21).trans (by decide +kernel)
theorem sr_133_22 : (SH1 133).2.2 22 = some 156 := ((shE 133).2.2 22).trans (by decide +kernel)
theorem sr_133_23 : (SH1 133).2.2 23 = some 157 := ((shE 133).2.2 23).trans (by decide +kernel)
theorem sr_133_24 : (SH1 133).2.2 24 = some 158 := ((shE 133).2.2 24).trans (by decide +kernel)
theorem sr_133_25 : (SH1 133).2.2 25 = some 159 := ((shE 133).2.2 25).trans (by decide +kernel)
theorem sr_133_26 : (SH1 133).2.2 26 = some 160 := ((shE 133).2.2 26).trans (by decide +kernel)
theorem sr_133_27 : (SH1 133).2.2 27 = some 161 := ((shE 133).2.2 27).trans (by decide +kernel)
theorem sr_133_28 : (SH1 133).2.2 28 = some 162 := ((shE 133).2.2 28).trans (by decide +kernel)
theorem sr_133_29 : (SH1 133).2.2 29 = some 163 := ((shE 133).2.2 29).trans (by decide +kernel)
theorem sr_164_7 : (SH1 164).2.2 7 = some 165 := ((shE 164).2.2 7).trans (by decide +kernel)
theorem sr_164_8 : (SH1 164).2.2 8 = some 172 := ((shE 164).2.2 8).trans (by decide +kernel)
theorem sr_164_9 : (SH1 164).2.2 9 = some 173 := ((shE 164).2.2 9).trans (by decide +kernel)
theorem sr_164_10 : (SH1 164).2.2 10 = some 174 := ((shE 164).2.2 10).trans (by decide +kernel)
theorem sr_164_11 : (SH1 164).2.2 11 = some 175 := ((shE 164).2.2 11).trans (by decide +kernel)
theorem sr_164_12 : (SH1 164).2.2 12 = some 176 := ((shE 164).2.2 12).trans (by decide +kernel)
theorem sr_164_13 : (SH1 164).2.2 13 = some 177 := ((shE 164).2.2 13).trans (by decide +kernel)
theorem sr_164_14 : (SH1 164).2.2 14 = some 178 := ((shE 164).2.2 14).trans (by decide +kernel)
theorem sr_165_1 : (SH1 165).2.2 1 = some 166 := ((shE 165).2.2 1).trans (by decide +kernel)
theorem sr_166_0 : (SH1 166).2.2 0 = some 167 := ((shE 166).2.2 0).trans (by decide +kernel)
theorem sr_166_1 : (SH1 166).2.2 1 = some 168 := ((shE 166).2.2 1).trans (by decide +kernel)
theorem sr_166_2 : (SH1 166).2.2 2 = some 169 := ((shE 166).2.2 2).trans (by decide +kernel)
theorem sr_166_3 : (SH1 166).2.2 3 = some 170 := ((shE 166).2.2 3).trans (by decide +kernel)
theorem sr_166_4 : (SH1 166).2.2 4 = some 171 := ((shE 166).2.2 4).trans (by decide +kernel)
theorem sr_179_7 : (SH1 179).2.2 7 = some 180 := ((shE 179).2.2 7).trans (by decide +kernel)
theorem sr_179_8 : (SH1 179).2.2 8 = some 187 := ((shE 179).2.2 8).trans (by decide +kernel)
theorem sr_179_9 : (SH1 179).2.2 9 = some 188 := ((shE 179).2.2 9).trans (by decide +kernel)
theorem sr_179_10 : (SH1 179).2.2 10 = some 189 := ((shE 179).2.2 10).trans (by decide +kernel)
theorem sr_179_11 : (SH1 179).2.2 11 = some 190 := ((shE 179).2.2 11).trans (by decide +kernel)
theorem sr_179_12 : (SH1 179).2.2 12 = some 191 := ((shE 179).2.2 12).trans (by decide +kernel)
theorem sr_179_13 : (SH1 179).2.2 13 = some 192 := ((shE 179).2.2 13).trans (by decide +kernel)
theorem sr_179_14 : (SH1 179).2.2 14 = some 193 := ((shE 179).2.2 14).trans (by decide +kernel)
theorem sr_180_1 : (SH1 180).2.2 1 = some 181 := ((shE 180).2.2 1).trans (by decide +kernel)
theorem sr_181_0 : (SH1 181).2.2 0 = some 182 := ((shE 181).2.2 0).trans (by decide +kernel)
theorem sr_181_1 : (SH1 181).2.2 1 = some 183 := ((shE 181).2.2 1).trans (by decide +kernel)
theorem sr_181_2 : (SH1 181).2.2 2 = some 184 := ((shE 181).2.2 2).trans (by decide +kernel)
theorem sr_181_3 : (SH1 181).2.2 3 = some 185 := ((shE 181).2.2 3).trans (by decide +kernel)
theorem sr_181_4 : (SH1 181).2.2 4 = some 186 := ((shE 181).2.2 4).trans (by decide +kernel)
theorem sr_194_0 : (SH1 194).2.2 0 = some 195 := ((shE 194).2.2 0).trans (by decide +kernel)
theorem sr_194_1 : (SH1 194).2.2 1 = some 196 := ((shE 194).2.2 1).trans (by decide +kernel)
theorem sr_194_2 : (SH1 194).2.2 2 = some 197 := ((shE 194).2.2 2).trans (by decide +kernel)
theorem sr_194_3 : (SH1 194).2.2 3 = some 198 := ((shE 194).2.2 3).trans (by decide +kernel)
theorem sr_194_4 : (SH1 194).2.2 4 = some 199 := ((shE 194).2.2 4).trans (by decide +kernel)
theorem sr_194_5 : (SH1 194).2.2 5 = some 200 := ((shE 194).2.2 5).trans (by decide +kernel)
theorem sr_201_0 : (SH1 201).2.2 0 = some 202 := ((shE 201).2.2 0).trans (by decide +kernel)
theorem sr_204_0 : (SH1 204).2.2 0 = some 205 := ((shE 204).2.2 0).trans (by decide +kernel)
theorem sr_204_1 : (SH1 204).2.2 1 = some 206 := ((shE 204).2.2 1).trans (by decide +kernel)
theorem sr_204_2 : (SH1 204).2.2 2 = some 207 := ((shE 204).2.2 2).trans (by decide +kernel)
theorem sr_210_1 : (SH1 210).2.2 1 = some 211 := ((shE 210).2.2 1).trans (by decide +kernel)
theorem sr_210_2 : (SH1 210).2.2 2 = some 217 := ((shE 210).2.2 2).trans (by decide +kernel)
theorem sr_210_3 : (SH1 210).2.2 3 = some 218 := ((shE 210).2.2 3).trans (by decide +kernel)
theorem sr_210_4 : (SH1 210).2.2 4 = some 250 := ((shE 210).2.2 4).trans (by decide +kernel)
theorem sr_211_5 : (SH1 211).2.2 5 = some 212 := ((shE 211).2.2 5).trans (by decide +kernel)
theorem sr_211_6 : (SH1 211).2.2 6 = some 213 := ((shE 211).2.2 6).trans (by decide +kernel)
theorem sr_211_7 : (SH1 211).2.2 7 = some 214 := ((shE 211).2.2 7).trans (by decide +kernel)
theorem sr_211_8 : (SH1 211).2.2 8 = some 215 := ((shE 211).2.2 8).trans (by decide +kernel)
theorem sr_211_9 : (SH1 211).2.2 9 = some 216 := ((shE 211).2.2 9).trans (by decide +kernel)
theorem sr_217_0 : (SH1 217).2.2 0 = some 265 := ((shE 217).2.2 0).trans (by decide +kernel)
theorem sr_217_1 : (SH1 217).2.2 1 = some 272 := ((shE 217).2.2 1).trans (by decide +kernel)
theorem sr_217_2 : (SH1 217).2.2 2 = some 279 := ((shE 217).2.2 2).trans (by decide +kernel)
theorem sr_217_3 : (SH1 217).2.2 3 = some 286 := ((shE 217).2.2 3).trans (by decide +kernel)
theorem sr_217_4 : (SH1 217).2.2 4 = some 293 := ((shE 217).2.2 4).trans (by decide +kernel)
theorem sr_217_5 : (SH1 217).2.2 5 = some 300 := ((shE 217).2.2 5).trans (by decide +kernel)
theorem sr_218_1 : (SH1 218).2.2 1 = some 219 := ((shE 218).2.2 1).trans (by decide +kernel)
theorem sr_219_0 : (SH1 219).2.2 0 = some 220 := ((shE 219).2.2 0).trans (by decide +kernel)
theorem sr_219_1 : (SH1 219).2.2 1 = some 221 := ((shE 219).2.2 1).trans (by decide +kernel)
theorem sr_219_2 : (SH1 219).2.2 2 = some 222 := ((shE 219).2.2 2).trans (by decide +kernel)
theorem sr_219_3 : (SH1 219).2.2 3 = some 223 := ((shE 219).2.2 3).trans (by decide +kernel)
theorem sr_219_4 : (SH1 219).2.2 4 = some 224 := ((shE 219).2.2 4).trans (by decide +kernel)
theorem sr_219_5 : (SH1 219).2.2 5 = some 225 := ((shE 219).2.2 5).trans (by decide +kernel)
theorem sr_219_6 : (SH1 219).2.2 6 = some 226 := ((shE 219).2.2 6).trans (by decide +kernel)
theorem sr_219_7 : (SH1 219).2.2 7 = some 227 := ((shE 219).2.2 7).trans (by decide +kernel)
theorem sr_219_8 : (SH1 219).2.2 8 = some 228 := ((shE 219).2.2 8).trans (by decide +kernel)
theorem sr_219_9 : (SH1 219).2.2 9 = some 229 := ((shE 219).2.2 9).trans (by decide +kernel)
theorem sr_219_10 : (SH1 219).2.2 10 = some 230 := ((shE 219).2.2 10).trans (by decide +kernel)
theorem sr_219_11 : (SH1 219).2.2 11 = some 231 := ((shE 219).2.2 11).trans (by decide +kernel)
theorem sr_219_12 : (SH1 219).2.2 12 = some 232 := ((shE 219).2.2 12).trans (by decide +kernel)
theorem sr_219_13 : (SH1 219).2.2 13 = some 233 := ((shE 219).2.2 13).trans (by decide +kernel)
theorem sr_219_14 : (SH1 219).2.2 14 = some 234 := ((shE 219).2.2 14).trans (by decide +kernel)
theorem sr_219_15 : (SH1 219).2.2 15 = some 235 := ((shE 219).2.2 15).trans (by decide +kernel)
theorem sr_219_16 : (SH1 219).2.2 16 = some 236 := ((shE 219).2.2 16).trans (by decide +kernel)
theorem sr_219_17 : (SH1 219).2.2 17 = some 237 := ((shE 219).2.2 17).trans (by decide +kernel)
theorem sr_219_18 : (SH1 219).2.2 18 = some 238 := ((shE 219).2.2 18).trans (by decide +kernel)
theorem sr_219_19 : (SH1 219).2.2 19 = some 239 := ((shE 219).2.2 19).trans (by decide +kernel)
theorem sr_219_20 : (SH1 219).2.2 20 = some 240 := ((shE 219).2.2 20).trans (by decide +kernel)
theorem sr_219_21 : (SH1 219).2.2 21 = some 241 := ((shE 219).2.2 21).trans (by decide +kernel)
theorem sr_219_22 : (SH1 219).2.2 22 = some 242 := ((shE 219).2.2 22).trans (by decide +kernel)
theorem sr_219_23 : (SH1 219).2.2 23 = some 243 := ((shE 219).2.2 23).trans (by decide +kernel)
theorem sr_219_24 : (SH1 219).2.2 24 = some 244 := ((shE 219).2.2 24).trans (by decide +kernel)
theorem sr_219_25 : (SH1 219).2.2 25 = some 245 := ((shE 219).2.2 25).trans (by decide +kernel)
theorem sr_219_26 : (SH1 219).2.2 26 = some 246 := ((shE 219).2.2 26).trans (by decide +kernel)
theorem sr_219_27 : (SH1 219).2.2 27 = some 247 := ((shE 219).2.2 27).trans (by decide +kernel)
theorem sr_219_28 : (SH1 219).2.2 28 = some 248 := ((shE 219).2.2 28).trans (by decide +kernel)
theorem sr_219_29 : (SH1 219).2.2 29 = some 249 := ((shE 219).2.2 29).trans (by decide +kernel)
theorem sr_250_7 : (SH1 250).2.2 7 = some 251 := ((shE 250).2.2 7).trans (by decide +kernel)
theorem sr_250_8 : (SH1 250).2.2 8 = some 258 := ((shE 250).2.2 8).trans (by decide +kernel)
theorem sr_250_9 : (SH1 250).2.2 9 = some 259 := ((shE 250).2.2 9).trans (by decide +kernel)
theorem sr_250_10 : (SH1 250).2.2 10 = some 260 := ((shE 250).2.2 10).trans (by decide +kernel)
theorem sr_250_11 : (SH1 250).2.2 11 = some 261 := ((shE 250).2.2 11).trans (by decide +kernel)
theorem sr_250_12 : (SH1 250).2.2 12 = some 262 := ((shE 250).2.2 12).trans (by decide +kernel)
theorem sr_250_13 : (SH1 250).2.2 13 = some 263 := ((shE 250).2.2 13).trans (by decide +kernel)
theorem sr_250_14 : (SH1 250).2.2 14 = some 264 := ((shE 250).2.2 14).trans (by decide +kernel)
theorem sr_251_1 : (SH1 251).2.2 1 = some 252 := ((shE 251).2.2 1).trans (by decide +kernel)
theorem sr_252_0 : (SH1 252).2.2 0 = some 253 := ((shE 252).2.2 0).trans (by decide +kernel)
theorem sr_252_1 : (SH1 252).2.2 1 = some 254 := ((shE 252).2.2 1).trans (by decide +kernel)
theorem sr_252_2 : (SH1 252).2.2 2 = some 255 := ((shE 252).2.2 2).trans (by decide +kernel)
theorem sr_252_3 : (SH1 252).2.2 3 = some 256 := ((shE 252).2.2 3).trans (by decide +kernel)
theorem sr_252_4 : (SH1 252).2.2 4 = some 257 := ((shE 252).2.2 4).trans (by decide +kernel)
theorem sr_265_1 : (SH1 265).2.2 1 = some 266 := ((shE 265).2.2 1).trans (by decide +kernel)
theorem sr_266_0 : (SH1 266).2.2 0 = some 267 := ((shE 266).2.2 0).trans (by decide +kernel)
theorem sr_266_1 : (SH1 266).2.2 1 = some 268 := ((shE 266).2.2 1).trans (by decide +kernel)
theorem sr_266_2 : (SH1 266).2.2 2 = some 269 := ((shE 266).2.2 2).trans (by decide +kernel)
theorem sr_266_3 : (SH1 266).2.2 3 = some 270 := ((shE 266).2.2 3).trans (by decide +kernel)
theorem sr_266_4 : (SH1 266).2.2 4 = some 271 := ((shE 266).2.2 4).trans (by decide +kernel)
theorem sr_272_1 : (SH1 272).2.2 1 = some 273 := ((shE 272).2.2 1).trans (by decide +kernel)
theorem sr_273_0 : (SH1 273).2.2 0 = some 274 := ((shE 273).2.2 0).trans (by decide +kernel)
theorem sr_273_1 : (SH1 273).2.2 1 = some 275 := ((shE 273).2.2 1).trans (by decide +kernel)
theorem sr_273_2 : (SH1 273).2.2 2 = some 276 := ((shE 273).2.2 2).trans (by decide +kernel)
theorem sr_273_3 : (SH1 273).2.2 3 = some 277 := ((shE 273).2.2 3).trans (by decide +kernel)
theorem sr_273_4 : (SH1 273).2.2 4 = some 278 := ((shE 273).2.2 4).trans (by decide +kernel)
theorem sr_279_1 : (SH1 279).2.2 1 = some 280 := ((shE 279).2.2 1).trans (by decide +kernel)
theorem sr_280_0 : (SH1 280).2.2 0 = some 281 := ((shE 280).2.2 0).trans (by decide +kernel)
theorem sr_280_1 : (SH1 280).2.2 1 = some 282 := ((shE 280).2.2 1).trans (by decide +kernel)
theorem sr_280_2 : (SH1 280).2.2 2 = some 283 := ((shE 280).2.2 2).trans (by decide +kernel)
theorem sr_280_3 : (SH1 280).2.2 3 = some 284 := ((shE 280).2.2 3).trans (by decide +kernel)
theorem sr_280_4 : (SH1 280).2.2 4 = some 285 := ((shE 280).2.2 4).trans (by decide +kernel)
theorem sr_286_1 : (SH1 286).2.2 1 = some 287 := ((shE 286).2.2 1).trans (by decide +kernel)
theorem sr_287_0 : (SH1 287).2.2 0 = some 288 := ((shE 287).2.2 0).trans (by decide +kernel)
theorem sr_287_1 : (SH1 287).2.2 1 = some 289 := ((shE 287).2.2 1).trans (by decide +kernel)
theorem sr_287_2 : (SH1 287).2.2 2 = some 290 := ((shE 287).2.2 2).trans (by decide +kernel)
theorem sr_287_3 : (SH1 287).2.2 3 = some 291 := ((shE 287).2.2 3).trans (by decide +kernel)
theorem sr_287_4 : (SH1 287).2.2 4 = some 292 := ((shE 287).2.2 4).trans (by decide +kernel)
theorem sr_293_1 : (SH1 293).2.2 1 = some 294 := ((shE 293).2.2 1).trans (by decide +kernel)
theorem sr_294_0 : (SH1 294).2.2 0 = some 295 := ((shE 294).2.2 0).trans (by decide +kernel)
theorem sr_294_1 : (SH1 294).2.2 1 = some 296 := ((shE 294).2.2 1).trans (by decide +kernel)
theorem sr_294_2 : (SH1 294).2.2 2 = some 297 := ((shE 294).2.2 2).trans (by decide +kernel)
theorem sr_294_3 : (SH1 294).2.2 3 = some 298 := ((shE 294).2.2 3).trans (by decide +kernel)
theorem sr_294_4 : (SH1 294).2.2 4 = some 299 := ((shE 294).2.2 4).trans (by decide +kernel)
theorem sr_300_1 : (SH1 300).2.2 1 = some 301 := ((shE 300).2.2 1).trans (by decide +kernel)
theorem sr_301_0 : (SH1 301).2.2 0 = some 302 := ((shE 301).2.2 0).trans (by decide +kernel)
theorem sr_301_1 : (SH1 301).2.2 1 = some 303 := ((shE 301).2.2 1).trans (by decide +kernel)
theorem sr_301_2 : (SH1 301).2.2 2 = some 304 := ((shE 301).2.2 2).trans (by decide +kernel)
theorem sr_301_3 : (SH1 301).2.2 3 = some 305 := ((shE 301).2.2 3).trans (by decide +kernel)
theorem sr_301_4 : (SH1 301).2.2 4 = some 306 := ((shE 301).2.2 4).trans (by decide +kernel)
theorem sr_307_1 : (SH1 307).2.2 1 = some 308 := ((shE 307).2.2 1).trans (by decide +kernel)
theorem sr_307_2 : (SH1 307).2.2 2 = some 314 := ((shE 307).2.2 2).trans (by decide +kernel)
theorem sr_307_3 : (SH1 307).2.2 3 = some 315 := ((shE 307).2.2 3).trans (by decide +kernel)
theorem sr_307_4 : (SH1 307).2.2 4 = some 347 := ((shE 307).2.2 4).trans (by decide +kernel)
theorem sr_308_5 : (SH1 308).2.2 5 = some 309 := ((shE 308).2.2 5).trans (by decide +kernel)
theorem sr_308_6 : (SH1 308).2.2 6 = some 310 := ((shE 308).2.2 6).trans (by decide +kernel)
theorem sr_308_7 : (SH1 308).2.2 7 = some 311 := ((shE 308).2.2 7).trans (by decide +kernel)
theorem sr_308_8 : (SH1 308).2.2 8 = some 312 := ((shE 308).2.2 8).trans (by decide +kernel)
theorem sr_308_9 : (SH1 308).2.2 9 = some 313 := ((shE 308).2.2 9).trans (by decide +kernel)
theorem sr_314_0 : (SH1 314).2.2 0 = some 362 := ((shE 314).2.2 0).trans (by decide +kernel)
theorem sr_314_1 : (SH1 314).2.2 1 = some 369 := ((shE 314).2.2 1).trans (by decide +kernel)
theorem sr_314_2 : (SH1 314).2.2 2 = some 376 := ((shE 314).2.2 2).trans (by decide +kernel)
theorem sr_314_3 : (SH1 314).2.2 3 = some 383 := ((shE 314).2.2 3).trans (by decide +kernel)
theorem sr_314_4 : (SH1 314).2.2 4 = some 390 := ((shE 314).2.2 4).trans (by decide +kernel)
theorem sr_314_5 : (SH1 314).2.2 5 = some 397 := ((shE 314).2.2 5).trans (by decide +kernel)
theorem sr_315_1 : (SH1 315).2.2 1 = some 316 := ((shE 315).2.2 1).trans (by decide +kernel)
theorem sr_316_0 : (SH1 316).2.2 0 = some 317 := ((shE 316).2.2 0).trans (by decide +kernel)
theorem sr_316_1 : (SH1 316).2.2 1 = some 318 := ((shE 316).2.2 1).trans (by decide +kernel)
theorem sr_316_2 : (SH1 316).2.2 2 = some 319 := ((shE 316).2.2 2).trans (by decide +kernel)
theorem sr_316_3 : (SH1 316).2.2 3 = some 320 := ((shE 316).2.2 3).trans (by decide +kernel)
theorem sr_316_4 : (SH1 316).2.2 4 = some 321 := ((shE 316).2.2 4).trans (by decide +kernel)
theorem sr_316_5 : (SH1 316).2.2 5 = some 322 := ((shE 316).2.2 5).trans (by decide +kernel)
theorem sr_316_6 : (SH1 316).2.2 6 = some 323 := ((shE 316).2.2 6).trans (by decide +kernel)
theorem sr_316_7 : (SH1 316).2.2 7 = some 324 := ((shE 316).2.2 7).trans (by decide +kernel)
theorem sr_316_8 : (SH1 316).2.2 8 = some 325 := ((shE 316).2.2 8).trans (by decide +kernel)
theorem sr_316_9 : (SH1 316).2.2 9 = some 326 := ((shE 316).2.2 9).trans (by decide +kernel)
theorem sr_316_10 : (SH1 316).2.2 10 = some 327 := ((shE 316).2.2 10).trans (by decide +kernel)
theorem sr_316_11 : (SH1 316).2.2 11 = some 328 := ((shE 316).2.2 11).trans (by decide +kernel)
theorem sr_316_12 : (SH1 316).2.2 12 = some 329 := ((shE 316).2.2 12).trans (by decide +kernel)
theorem sr_316_13 : (SH1 316).2.2 13 = some 330 := ((shE 316).2.2 13).trans (by decide +kernel)
theorem sr_316_14 : (SH1 316).2.2 14 = some 331 := ((shE 316).2.2 14).trans (by decide +kernel)
theorem sr_316_15 : (SH1 316).2.2 15 = some 332 := ((shE 316).2.2 15).trans (by decide +kernel)
theorem sr_316_16 : (SH1 316).2.2 16 = some 333 := ((shE 316).2.2 16).trans (by decide +kernel)
theorem sr_316_17 : (SH1 316).2.2 17 = some 334 := ((shE 316).2.2 17).trans (by decide +kernel)
theorem sr_316_18 : (SH1 316).2.2 18 = some 335 := ((shE 316).2.2 18).trans (by decide +kernel)
theorem sr_316_19 : (SH1 316).2.2 19 = some 336 := ((shE 316).2.2 19).trans (by decide +kernel)
theorem sr_316_20 : (SH1 316).2.2 20 = some 337 := ((shE 316).2.2 20).trans (by decide +kernel)
theorem sr_316_21 : (SH1 316).2.2 21 = some 338 := ((shE 316).2.2 21).trans (by decide +kernel)
theorem sr_316_22 : (SH1 316).2.2 22 = some 339 := ((shE 316).2.2 22).trans (by decide +kernel)
theorem sr_316_23 : (SH1 316).2.2 23 = some 340 := ((shE 316).2.2 23).trans (by decide +kernel)
theorem sr_316_24 : (SH1 316).2.2 24 = some 341 := ((shE 316).2.2 24).trans (by decide +kernel)
theorem sr_316_25 : (SH1 316).2.2 25 = some 342 := ((shE 316).2.2 25).trans (by decide +kernel)
theorem sr_316_26 : (SH1 316).2.2 26 = some 343 := ((shE 316).2.2 26).trans (by decide +kernel)
theorem sr_316_27 : (SH1 316).2.2 27 = some 344 := ((shE 316).2.2 27).trans (by decide +kernel)
theorem sr_316_28 : (SH1 316).2.2 28 = some 345 := ((shE 316).2.2 28).trans (by decide +kernel)
theorem sr_316_29 : (SH1 316).2.2 29 = some 346 := ((shE 316).2.2 29).trans (by decide +kernel)
theorem sr_347_7 : (SH1 347).2.2 7 = some 348 := ((shE 347).2.2 7).trans (by decide +kernel)
theorem sr_347_8 : (SH1 347).2.2 8 = some 355 := ((shE 347).2.2 8).trans (by decide +kernel)
theorem sr_347_9 : (SH1 347).2.2 9 = some 356 := ((shE 347).2.2 9).trans (by decide +kernel)
theorem sr_347_10 : (SH1 347).2.2 10 = some 357 := ((shE 347).2.2 10).trans (by decide +kernel)
theorem sr_347_11 : (SH1 347).2.2 11 = some 358 := ((shE 347).2.2 11).trans (by decide +kernel)
theorem sr_347_12 : (SH1 347).2.2 12 = some 359 := ((shE 347).2.2 12).trans (by decide +kernel)
theorem sr_347_13 : (SH1 347).2.2 13 = some 360 := ((shE 347).2.2 13).trans (by decide +kernel)
theorem sr_347_14 : (SH1 347).2.2 14 = some 361 := ((shE 347).2.2 14).trans (by decide +kernel)
theorem sr_348_1 : (SH1 348).2.2 1 = some 349 := ((shE 348).2.2 1).trans (by decide +kernel)
theorem sr_349_0 : (SH1 349).2.2 0 = some 350 := ((shE 349).2.2 0).trans (by decide +kernel)
theorem sr_349_1 : (SH1 349).2.2 1 = some 351 := ((shE 349).2.2 1).trans (by decide +kernel)
theorem sr_349_2 : (SH1 349).2.2 2 = some 352 := ((shE 349).2.2 2).trans (by decide +kernel)
theorem sr_349_3 : (SH1 349).2.2 3 = some 353 := ((shE 349).2.2 3).trans (by decide +kernel)
theorem sr_349_4 : (SH1 349).2.2 4 = some 354 := ((shE 349).2.2 4).trans (by decide +kernel)
theorem sr_362_1 : (SH1 362).2.2 1 = some 363 := ((shE 362).2.2 1).trans (by decide +kernel)
theorem sr_363_0 : (SH1 363).2.2 0 = some 364 := ((shE 363).2.2 0).trans (by decide +kernel)
theorem sr_363_1 : (SH1 363).2.2 1 = some 365 := ((shE 363).2.2 1).trans (by decide +kernel)
theorem sr_363_2 : (SH1 363).2.2 2 = some 366 := ((shE 363).2.2 2).trans (by decide +kernel)
theorem sr_363_3 : (SH1 363).2.2 3 = some 367 := ((shE 363).2.2 3).trans (by decide +kernel)
theorem sr_363_4 : (SH1 363).2.2 4 = some 368 := ((shE 363).2.2 4).trans (by decide +kernel)
theorem sr_369_1 : (SH1 369).2.2 1 = some 370 := ((shE 369).2.2 1).trans (by decide +kernel)
theorem sr_370_0 : (SH1 370).2.2 0 = some 371 := ((shE 370).2.2 0).trans (by decide +kernel)
theorem sr_370_1 : (SH1 370).2.2 1 = some 372 := ((shE 370).2.2 1).trans (by decide +kernel)
theorem sr_370_2 : (SH1 370).2.2 2 = some 373 := ((shE 370).2.2 2).trans (by decide +kernel)
theorem sr_370_3 : (SH1 370).2.2 3 = some 374 := ((shE 370).2.2 3).trans (by decide +kernel)
theorem sr_370_4 : (SH1 370).2.2 4 = some 375 := ((shE 370).2.2 4).trans (by decide +kernel)
theorem sr_376_1 : (SH1 376).2.2 1 = some 377 := ((shE 376).2.2 1).trans (by decide +kernel)
theorem sr_377_0 : (SH1 377).2.2 0 = some 378 := ((shE 377).2.2 0).trans (by decide +kernel)
theorem sr_377_1 : (SH1 377).2.2 1 = some 379 := ((shE 377).2.2 1).trans (by decide +kernel)
theorem sr_377_2 : (SH1 377).2.2 2 = some 380 := ((shE 377).2.2 2).trans (by decide +kernel)
theorem sr_377_3 : (SH1 377).2.2 3 = some 381 := ((shE 377).2.2 3).trans (by decide +kernel)
theorem sr_377_4 : (SH1 377).2.2 4 = some 382 := ((shE 377).2.2 4).trans (by decide +kernel)
theorem sr_383_1 : (SH1 383).2.2 1 = some 384 := ((shE 383).2.2 1).trans (by decide +kernel)
theorem sr_384_0 : (SH1 384).2.2 0 = some 385 := ((shE 384).2.2 0).trans (by decide +kernel)
theorem sr_384_1 : (SH1 384).2.2 1 = some 386 := ((shE 384).2.2 1).trans (by decide +kernel)
theorem sr_384_2 : (SH1 384).2.2 2 = some 387 := ((shE 384).2.2 2).trans (by decide +kernel)
theorem sr_384_3 : (SH1 384).2.2 3 = some 388 := ((shE 384).2.2 3).trans (by decide +kernel)
theorem sr_384_4 : (SH1 384).2.2 4 = some 389 := ((shE 384).2.2 4).trans (by decide +kernel)
theorem sr_390_1 : (SH1 390).2.2 1 = some 391 := ((shE 390).2.2 1).trans (by decide +kernel)
theorem sr_391_0 : (SH1 391).2.2 0 = some 392 := ((shE 391).2.2 0).trans (by decide +kernel)
theorem sr_391_1 : (SH1 391).2.2 1 = some 393 := ((shE 391).2.2 1).trans (by decide +kernel)
theorem sr_391_2 : (SH1 391).2.2 2 = some 394 := ((shE 391).2.2 2).trans (by decide +kernel)
theorem sr_391_3 : (SH1 391).2.2 3 = some 395 := ((shE 391).2.2 3).trans (by decide +kernel)
theorem sr_391_4 : (SH1 391).2.2 4 = some 396 := ((shE 391).2.2 4).trans (by decide +kernel)
theorem sr_397_1 : (SH1 397).2.2 1 = some 398 := ((shE 397).2.2 1).trans (by decide +kernel)
theorem sr_398_0 : (SH1 398).2.2 0 = some 399 := ((shE 398).2.2 0).trans (by decide +kernel)
theorem sr_398_1 : (SH1 398).2.2 1 = some 400 := ((shE 398).2.2 1).trans (by decide +kernel)
theorem sr_398_2 : (SH1 398).2.2 2 = some 401 := ((shE 398).2.2 2).trans (by decide +kernel)
theorem sr_398_3 : (SH1 398).2.2 3 = some 402 := ((shE 398).2.2 3).trans (by decide +kernel)
theorem sr_398_4 : (SH1 398).2.2 4 = some 403 := ((shE 398).2.2 4).trans (by decide +kernel)
theorem sr_404_1 : (SH1 404).2.2 1 = some 405 := ((shE 404).2.2 1).trans (by decide +kernel)
theorem sr_404_6 : (SH1 404).2.2 6 = some 406 := ((shE 404).2.2 6).trans (by decide +kernel)
theorem sr_404_7 : (SH1 404).2.2 7 = some 407 := ((shE 404).2.2 7).trans (by decide +kernel)
theorem sr_404_8 : (SH1 404).2.2 8 = some 408 := ((shE 404).2.2 8).trans (by decide +kernel)
theorem sr_404_9 : (SH1 404).2.2 9 = some 409 := ((shE 404).2.2 9).trans (by decide +kernel)
theorem sr_404_10 : (SH1 404).2.2 10 = some 410 := ((shE 404).2.2 10).trans (by decide +kernel)
theorem sr_404_23 : (SH1 404).2.2 23 = some 411 := ((shE 404).2.2 23).trans (by decide +kernel)
theorem sr_404_24 : (SH1 404).2.2 24 = some 412 := ((shE 404).2.2 24).trans (by decide +kernel)
theorem sr_404_25 : (SH1 404).2.2 25 = some 413 := ((shE 404).2.2 25).trans (by decide +kernel)
theorem sr_404_26 : (SH1 404).2.2 26 = some 414 := ((shE 404).2.2 26).trans (by decide +kernel)
theorem sr_404_27 : (SH1 404).2.2 27 = some 415 := ((shE 404).2.2 27).trans (by decide +kernel)
theorem sr_404_28 : (SH1 404).2.2 28 = some 416 := ((shE 404).2.2 28).trans (by decide +kernel)
theorem sr_404_29 : (SH1 404).2.2 29 = some 417 := ((shE 404).2.2 29).trans (by decide +kernel)
theorem sr_404_30 : (SH1 404).2.2 30 = some 418 := ((shE 404).2.2 30).trans (by decide +kernel)
theorem sr_404_31 : (SH1 404).2.2 31 = some 419 := ((shE 404).2.2 31).trans (by decide +kernel)
theorem sr_404_39 : (SH1 404).2.2 39 = some 420 := ((shE 404).2.2 39).trans (by decide +kernel)
theorem sr_404_40 : (SH1 404).2.2 40 = some 421 := ((shE 404).2.2 40).trans (by decide +kernel)
theorem sr_404_42 : (SH1 404).2.2 42 = some 422 := ((shE 404).2.2 42).trans (by decide +kernel)
theorem sr_404_43 : (SH1 404).2.2 43 = some 423 := ((shE 404).2.2 43).trans (by decide +kernel)
theorem sr_404_44 : (SH1 404).2.2 44 = some 424 := ((shE 404).2.2 44).trans (by decide +kernel)
theorem sr_404_45 : (SH1 404).2.2 45 = some 425 := ((shE 404).2.2 45).trans (by decide +kernel)
theorem sr_404_46 : (SH1 404).2.2 46 = some 426 := ((shE 404).2.2 46).trans (by decide +kernel)
theorem sr_404_47 : (SH1 404).2.2 47 = some 427 := ((shE 404).2.2 47).trans (by decide +kernel)
theorem sr_404_49 : (SH1 404).2.2 49 = some 428 := ((shE 404).2.2 49).trans (by decide +kernel)
theorem sr_404_50 : (SH1 404).2.2 50 = some 429 := ((shE 404).2.2 50).trans (by decide +kernel)
theorem sr_404_51 : (SH1 404).2.2 51 = some 430 := ((shE 404).2.2 51).trans (by decide +kernel)
theorem sr_404_53 : (SH1 404).2.2 53 = some 431 := ((shE 404).2.2 53).trans (by decide +kernel)
theorem sr_404_55 : (SH1 404).2.2 55 = some 432 := ((shE 404).2.2 55).trans (by decide +kernel)
theorem sr_404_56 : (SH1 404).2.2 56 = some 433 := ((shE 404).2.2 56).trans (by decide +kernel)
end
section
/-! ===== more ops at a place ===== -/
def fi_max (x y : Int32) : Int32 := if x < y then y else x
def fi_min (x y : Int32) : Int32 := if y < x then y else x
def fi_abs (x : Int32) : Int32 := if 0 ≤ x then x else 0 - x
set_option maxRecDepth 8000 in
theorem fi_lt {x y : Int32} : x < y ↔ x.toInt < y.toInt := Int32.lt_iff_toInt_lt
set_option maxRecDepth 8000 in
theorem fi_le {x y : Int32} : x ≤ y ↔ x.toInt ≤ y.toInt := Int32.le_iff_toInt_le
set_option maxRecDepth 8000 in
theorem fi_max_i (x y : Int32) : (fi_max x y).toInt = max x.toInt y.toInt := by
  unfold fi_max
  by_cases h : x < y
  · rw [if_pos h]; rw [fi_lt] at h; omega
  · rw [if_neg h]; rw [fi_lt] at h; omega
set_option maxRecDepth 8000 in
theorem fi_min_i (x y : Int32) : (fi_min x y).toInt = min x.toInt y.toInt := by
  unfold fi_min
  by_cases h : y < x
  · rw [if_pos h]; rw [fi_lt] at h; omega
  · rw [if_neg h]; rw [fi_lt] at h; omega
set_option maxRecDepth 8000 in
theorem fi_nz {y : Int32} (h : y.toInt ≠ 0) : y ≠ 0 := fun e => h (by rw [e]; rfl)
set_option maxRecDepth 8000 in
theorem fi_z1 {y : Int32} (h : y.toInt = 0 ∨ y.toInt = 1) : y = 0 ∨ y = 1 := h.imp (fun e => dx_eqI.mpr e) (fun e => dx_eqI.mpr e)
set_option maxRecDepth 8000 in
theorem fi_b8 (x : Int32) : x.toInt8.toInt32.toInt8.toInt32 = x.toInt8.toInt32 := by
  rw [Int8.toInt8_toInt32]
section
variable {pr : Nat → dw_Op} {pc bc bs nx : Nat} {ls : dw_L} {st : List Value} {μ : dw_S}
set_option maxRecDepth 8000 in
theorem q_dupi {x : Int32} (ho : pr pc = o_dup nx) (k : dw_ok pr nx bc bs ls (.int x :: .int x :: st) μ) : dw_ok pr pc bc bs ls (.int x :: st) μ := dw_ok.step (by rw [ho]; exact k)
set_option maxRecDepth 8000 in
theorem q_ast {i a : Nat} (ho : pr pc = o_ast i nx) (hf : dw_free ls i = true) (k : dw_ok pr nx bc bs (ls.set i (some (.ref a))) st μ) : dw_ok pr pc bc bs ls (.ref a :: st) μ := dw_ok.step (by rw [ho]; unfold o_ast; simp only []; rw [hf]; exact k)
set_option maxRecDepth 8000 in
theorem q_astn {i : Nat} (ho : pr pc = o_ast i nx) (hf : dw_free ls i = true) (k : dw_ok pr nx bc bs (ls.set i (some .null)) st μ) : dw_ok pr pc bc bs ls (.null :: st) μ := dw_ok.step (by rw [ho]; unfold o_ast; simp only []; rw [hf]; exact k)
set_option maxRecDepth 8000 in
theorem q_aldn {i : Nat} (ho : pr pc = o_ald i nx) (hl : ls[i]? = some (some .null)) (k : dw_ok pr nx bc bs ls (.null :: st) μ) : dw_ok pr pc bc bs ls st μ := dw_ok.step (by rw [ho]; unfold o_ald; rw [hl]; exact k)
set_option maxRecDepth 8000 in
theorem q_lld {i : Nat} {x : Int64} (ho : pr pc = o_lld i nx) (hl : ls[i]? = some (some (.long x))) (k : dw_ok pr nx bc bs ls (.long x :: st) μ) : dw_ok pr pc bc bs ls st μ := dw_ok.step (by rw [ho]; unfold o_lld; rw [hl]; exact k)
set_option maxRecDepth 8000 in
theorem q_lc {v : Int64} (ho : pr pc = o_lc v nx) (k : dw_ok pr nx bc bs ls (.long v :: st) μ) : dw_ok pr pc bc bs ls st μ := dw_ok.step (by rw [ho]; exact k)
set_option maxRecDepth 8000 in
theorem q_nul (ho : pr pc = o_nul nx) (k : dw_ok pr nx bc bs ls (.null :: st) μ) : dw_ok pr pc bc bs ls st μ := dw_ok.step (by rw [ho]; exact k)
set_option maxRecDepth 8000 in
theorem q_str {i : Nat} (ho : pr pc = o_str i nx) (k : dw_ok pr nx bc bs ls (.ref (1000001 + i) :: st) μ) : dw_ok pr pc bc bs ls st μ := dw_ok.step (by rw [ho]; exact k)
set_option maxRecDepth 8000 in
theorem q_ifnn_r {a tg : Nat} (ho : pr pc = o_ifnn tg nx) (k : dw_ok pr tg bc bs ls st μ) : dw_ok pr pc bc bs ls (.ref a :: st) μ := dw_ok.step (by rw [ho]; exact k)
set_option maxRecDepth 8000 in
theorem q_ifnn_n {tg : Nat} (ho : pr pc = o_ifnn tg nx) (k : dw_ok pr nx bc bs ls st μ) : dw_ok pr pc bc bs ls (.null :: st) μ := dw_ok.step (by rw [ho]; exact k)
set_option maxRecDepth 8000 in
theorem q_ifnull_r {a tg : Nat} (ho : pr pc = o_ifnull tg nx) (k : dw_ok pr nx bc bs ls st μ) : dw_ok pr pc bc bs ls (.ref a :: st) μ := dw_ok.step (by rw [ho]; exact k)
set_option maxRecDepth 8000 in
theorem q_ifnull_n {tg : Nat} (ho : pr pc = o_ifnull tg nx) (k : dw_ok pr tg bc bs ls st μ) : dw_ok pr pc bc bs ls (.null :: st) μ := dw_ok.step (by rw [ho]; exact k)
set_option maxRecDepth 8000 in
theorem q_aret {K : dw_K} {a : Nat} (ho : pr pc = o_aret K) (k : K (some (.ref a)) μ) : dw_ok pr pc bc bs ls [.ref a] μ := dw_ok.step (by rw [ho]; exact k)
set_option maxRecDepth 8000 in
theorem q_aretn {K : dw_K} (ho : pr pc = o_aret K) (k : K (some .null) μ) : dw_ok pr pc bc bs ls [.null] μ := dw_ok.step (by rw [ho]; exact k)
set_option maxRecDepth 8000 in
theorem q_ior {x y : Int32} (ho : pr pc = o_ior nx) (k : dw_ok pr nx bc bs ls (.int (x ||| y) :: st) μ) : dw_ok pr pc bc bs ls (.int y :: .int x :: st) μ := dw_ok.step (by rw [ho]; exact k)
set_option maxRecDepth 8000 in
theorem q_ishl {x y : Int32} (ho : pr pc = o_ishl nx) (k : dw_ok pr nx bc bs ls (.int (x <<< (y &&& 31)) :: st) μ) : dw_ok pr pc bc bs ls (.int y :: .int x :: st) μ := dw_ok.step (by rw [ho]; exact k)
set_option maxRecDepth 8000 in
theorem q_ishr {x y : Int32} (ho : pr pc = o_ishr nx) (k : dw_ok pr nx bc bs ls (.int (x >>> (y &&& 31)) :: st) μ) : dw_ok pr pc bc bs ls (.int y :: .int x :: st) μ := dw_ok.step (by rw [ho]; exact k)
set_option maxRecDepth 8000 in
theorem q_iushr {x y : Int32} (ho : pr pc = o_iushr nx) (k : dw_ok pr nx bc bs ls (.int ((x.toUInt32 >>> (y.toUInt32 &&& Int32.toUInt32 31)).toInt32) :: st) μ) : dw_ok pr pc bc bs ls (.int y :: .int x :: st) μ := dw_ok.step (by rw [ho]; exact k)
set_option maxRecDepth 8000 in
theorem q_div {x y : Int32} (ho : pr pc = o_idiv nx) (h : y ≠ 0) (k : dw_ok pr nx bc bs ls (.int (x / y) :: st) μ) : dw_ok pr pc bc bs ls (.int y :: .int x :: st) μ := dw_ok.step (by rw [ho]; unfold o_idiv; simp only []; rw [if_neg h]; exact k)
set_option maxRecDepth 8000 in
theorem q_rem {x y : Int32} (ho : pr pc = o_irem nx) (h : y ≠ 0) (k : dw_ok pr nx bc bs ls (.int (x - x / y * y) :: st) μ) : dw_ok pr pc bc bs ls (.int y :: .int x :: st) μ := dw_ok.step (by rw [ho]; unfold o_irem; simp only []; rw [if_neg h]; exact k)
set_option maxRecDepth 8000 in
theorem q_neg {x : Int32} (ho : pr pc = o_ineg nx) (k : dw_ok pr nx bc bs ls (.int (-x) :: st) μ) : dw_ok pr pc bc bs ls (.int x :: st) μ := dw_ok.step (by rw [ho]; exact k)
set_option maxRecDepth 8000 in
theorem q_i2b {x : Int32} (ho : pr pc = o_i2b nx) (k : dw_ok pr nx bc bs ls (.int (x.toInt8.toInt32) :: st) μ) : dw_ok pr pc bc bs ls (.int x :: st) μ := dw_ok.step (by rw [ho]; exact k)
set_option maxRecDepth 8000 in
theorem q_lor {x y : Int64} (ho : pr pc = o_lor nx) (k : dw_ok pr nx bc bs ls (.long (x ||| y) :: st) μ) : dw_ok pr pc bc bs ls (.long y :: .long x :: st) μ := dw_ok.step (by rw [ho]; exact k)
set_option maxRecDepth 8000 in
theorem q_lshl {x : Int64} {y : Int32} (ho : pr pc = o_lshl nx) (k : dw_ok pr nx bc bs ls (.long (x <<< (y.toInt64 &&& 63)) :: st) μ) : dw_ok pr pc bc bs ls (.int y :: .long x :: st) μ := dw_ok.step (by rw [ho]; exact k)
set_option maxRecDepth 8000 in
theorem q_lcmp {x y : Int64} (ho : pr pc = o_lcmp nx) (k : dw_ok pr nx bc bs ls (.int (lg_cmp x y) :: st) μ) : dw_ok pr pc bc bs ls (.long y :: .long x :: st) μ := dw_ok.step (by rw [ho]; exact k)
set_option maxRecDepth 8000 in
theorem q_max {x y : Int32} (ho : pr pc = o_max nx) (h : Nat.ble (dw_cats st) 8 = true) (k : dw_ok pr nx bc bs ls (.int (fi_max x y) :: st) μ) : dw_ok pr pc bc bs ls (.int y :: .int x :: st) μ := dw_ok.step (by rw [ho]; unfold o_max; simp only []; rw [if_pos (Nat.le_of_ble_eq_true h)]; exact k)
set_option maxRecDepth 8000 in
theorem q_min {x y : Int32} (ho : pr pc = o_min nx) (h : Nat.ble (dw_cats st) 8 = true) (k : dw_ok pr nx bc bs ls (.int (fi_min x y) :: st) μ) : dw_ok pr pc bc bs ls (.int y :: .int x :: st) μ := dw_ok.step (by rw [ho]; unfold o_min; simp only []; rw [if_pos (Nat.le_of_ble_eq_true h)]; exact k)
set_option maxRecDepth 8000 in
theorem q_abs {x : Int32} (ho : pr pc = o_abs nx) (h : Nat.ble (dw_cats st) 8 = true) (k : dw_ok pr nx bc bs ls (.int (fi_abs x) :: st) μ) : dw_ok pr pc bc bs ls (.int x :: st) μ := dw_ok.step (by rw [ho]; unfold o_abs; simp only []; rw [if_pos (Nat.le_of_ble_eq_true h)]; exact k)
set_option maxRecDepth 8000 in
theorem q_getl {ci j a : Nat} (ho : pr pc = o_getf ci j 1 nx) (hk : (μ.2.1 a).1 = ci) (k : dw_ok pr nx bc bs ls (.long (μ.2.2.2 a j) :: st) μ) : dw_ok pr pc bc bs ls (.ref a :: st) μ :=
  dw_ok.step (by
    rw [ho]
    show (if (μ.2.1 a).1 = ci then dw_fitI 1 (μ.2.2.1 a j) (dw_ok pr nx bc bs ls (.long (μ.2.2.2 a j) :: st) μ) else False)
    rw [if_pos hk]
    exact k)
set_option maxRecDepth 8000 in
theorem q_putz {ci j a : Nat} {x : Int32} (ho : pr pc = o_puti ci j 3 nx) (hk : (μ.2.1 a).1 = ci) (hx : x = 0 ∨ x = 1) (k : dw_ok pr nx bc bs ls st (dw_si μ a j x)) : dw_ok pr pc bc bs ls (.int x :: .ref a :: st) μ :=
  dw_ok.step (by
    rw [ho]
    show (if (μ.2.1 a).1 = ci then dw_fitC 3 x (dw_ok pr nx bc bs ls st (dw_si μ a j x)) else False)
    rw [if_pos hk]
    show (if x = 0 ∨ x = 1 then _ else False)
    rw [if_pos hx]
    exact k)
set_option maxRecDepth 8000 in
theorem q_putl {ci j a : Nat} {x : Int64} (ho : pr pc = o_putl ci j nx) (hk : (μ.2.1 a).1 = ci) (k : dw_ok pr nx bc bs ls st (dw_sl μ a j x)) : dw_ok pr pc bc bs ls (.long x :: .ref a :: st) μ :=
  dw_ok.step (by
    rw [ho]
    show (if (μ.2.1 a).1 = ci then dw_ok pr nx bc bs ls st (dw_sl μ a j x) else False)
    rw [if_pos hk]
    exact k)
set_option maxRecDepth 8000 in
theorem q_xaldr {kd a b n : Nat} {x : Int32} (ho : pr pc = o_xald kd 2 nx) (hk : (μ.2.1 a).1 = kd) (hn : (μ.2.1 a).2.1 = n) (h0 : 0 ≤ x.toInt) (h1 : x.toInt < n) (hr : (μ.2.1 a).2.2 x.toInt.toNat = some b) (k : dw_ok pr nx bc bs ls (.ref b :: st) μ) : dw_ok pr pc bc bs ls (.int x :: .ref a :: st) μ :=
  dw_ok.step (by
    rw [ho]
    show (if (μ.2.1 a).1 = kd then (if ¬ x < 0 ∧ x.toNatClampNeg < (μ.2.1 a).2.1 then dw_fitI 2 (μ.2.2.1 a x.toNatClampNeg) (dw_ok pr nx bc bs ls (dw_rv ((μ.2.1 a).2.2 x.toNatClampNeg) :: st) μ) else False) else False)
    rw [if_pos hk, if_pos ⟨dx_nlt h0, by rw [hn, dx_tn]; omega⟩, dx_tn, hr]
    exact k)
set_option maxRecDepth 8000 in
theorem q_xaldl {a n : Nat} {x : Int32} (ho : pr pc = o_xald 17 1 nx) (hk : (μ.2.1 a).1 = 17) (hn : (μ.2.1 a).2.1 = n) (h0 : 0 ≤ x.toInt) (h1 : x.toInt < n) (k : dw_ok pr nx bc bs ls (.long (μ.2.2.2 a x.toInt.toNat) :: st) μ) : dw_ok pr pc bc bs ls (.int x :: .ref a :: st) μ :=
  dw_ok.step (by
    rw [ho]
    show (if (μ.2.1 a).1 = 17 then (if ¬ x < 0 ∧ x.toNatClampNeg < (μ.2.1 a).2.1 then dw_fitI 1 (μ.2.2.1 a x.toNatClampNeg) (dw_ok pr nx bc bs ls (.long (μ.2.2.2 a x.toNatClampNeg) :: st) μ) else False) else False)
    rw [if_pos hk, if_pos ⟨dx_nlt h0, by rw [hn, dx_tn]; omega⟩]
    exact k)
set_option maxRecDepth 8000 in
theorem q_iastb {kd a n : Nat} {x v : Int32} (ho : pr pc = o_iast kd 4 nx) (hk : (μ.2.1 a).1 = kd) (hn : (μ.2.1 a).2.1 = n) (h0 : 0 ≤ x.toInt) (h1 : x.toInt < n) (hv : v.toInt8.toInt32 = v) (k : dw_ok pr nx bc bs ls st (dw_si μ a x.toInt.toNat v)) : dw_ok pr pc bc bs ls (.int v :: .int x :: .ref a :: st) μ :=
  dw_ok.step (by
    rw [ho]
    show (if (μ.2.1 a).1 = kd then (if ¬ x < 0 ∧ x.toNatClampNeg < (μ.2.1 a).2.1 then dw_fitC 4 v (dw_ok pr nx bc bs ls st (dw_si μ a x.toNatClampNeg v)) else False) else False)
    rw [if_pos hk, if_pos ⟨dx_nlt h0, by rw [hn, dx_tn]; omega⟩]
    show (if v.toInt8.toInt32 = v then _ else False)
    rw [if_pos hv]
    exact k)
set_option maxRecDepth 8000 in
theorem q_alen2 {a kd N : Nat} (ho : pr pc = o_alen nx) (hk : (μ.2.1 a).1 = kd) (hn : (μ.2.1 a).2.1 = N) (h1 : ¬ kd = 999) (h2 : ¬ kd < 16) (k : dw_ok pr nx bc bs ls (.int (Int32.ofNat N) :: st) μ) : dw_ok pr pc bc bs ls (.ref a :: st) μ := by
  subst hk hn
  exact q_alen ho h1 h2 k
set_option maxRecDepth 8000 in
theorem q_callS {k : Nat} {T : dw_T} {as rest : List Value} (ho : pr pc = o_callS k 0 0 T nx) (h : dw_sp k st [] = (as, rest)) (h2 : as.length = k) (h3 : Nat.ble (dw_cats rest) 8 = true) (hT : T as μ (fun r μ' => dw_ok pr nx bc bs ls (r.toList ++ rest) μ')) : dw_ok pr pc bc bs ls st μ :=
  dw_ok.step (by
    rw [ho]
    unfold o_callS
    rw [h]
    show (if as.length = k ∧ dw_cats rest ≤ 8 ∧ 0 ≤ bc ∧ 0 ≤ bs then T as μ (fun r μ' => dw_ok pr nx (bc - 0) (bs - 0) ls (r.toList ++ rest) μ') else False)
    rw [if_pos ⟨h2, Nat.le_of_ble_eq_true h3, Nat.zero_le _, Nat.zero_le _⟩]
    exact hT)
set_option maxRecDepth 8000 in
theorem q_callW {ci k a : Nat} {T : dw_T} {as rest : List Value} (ho : pr pc = o_callV ci k 0 0 T nx) (h : dw_sp k st [] = (.ref a :: as, rest)) (h1 : (μ.2.1 a).1 = ci) (h2 : as.length + 1 = k) (h3 : Nat.ble (dw_cats rest) 8 = true) (hT : T (.ref a :: as) μ (fun r μ' => dw_ok pr nx bc bs ls (r.toList ++ rest) μ')) : dw_ok pr pc bc bs ls st μ :=
  q_callV ho h h1 h2 (Nat.le_of_ble_eq_true h3) hT
end
end
section
/-! ===== texts: bytes, tokens, as pure functions ===== -/
set_option maxRecDepth 8000 in
theorem nn {a b : Nat} (h : Nat.beq a b = false) : a ≠ b := fun e => by
  rw [e, Nat.beq_refl] at h
  exact absurd h (by decide)
abbrev fB : Type := Nat → Int32
abbrev f_sm (c : Int32) : Prop := 97 ≤ c.toInt ∧ c.toInt ≤ 122
abbrev f_dg (c : Int32) : Prop := 48 ≤ c.toInt ∧ c.toInt ≤ 57
abbrev f_bl (c : Int32) : Prop := c.toInt = 32 ∨ c.toInt = 10
def skF (b : fB) (n : Nat) : Nat → Nat → Nat
  | 0, p => p
  | f + 1, p => if p < n ∧ f_bl (b p) then skF b n f (p + 1) else p
def rnF (b : fB) (n : Nat) : Nat → Nat → Nat
  | 0, p => p
  | f + 1, p => if p < n ∧ (f_sm (b p) ∨ f_dg (b p)) then rnF b n f (p + 1) else p
def ltF (b : fB) (q : Nat) : Nat → Nat
  | 0 => 0
  | k + 1 => ltF b q k + if f_sm (b (q + k)) then 1 else 0
def dtF (b : fB) (q : Nat) : Nat → Nat
  | 0 => 0
  | k + 1 => dtF b q k + if f_dg (b (q + k)) then 1 else 0
def vlF (b : fB) (q : Nat) : Nat → Int32
  | 0 => 0
  | k + 1 => 10 * vlF b q k + b (q + k) - 48
/-- kind, place, the next place, value -/
abbrev fT : Type := Nat × Nat × Nat × Int32
def tkF (b : fB) (n m p : Nat) : fT :=
  if m < n ∧ m ≤ skF b n (n - p) p then (4, m, skF b n (n - p) p, 0)
  else if n ≤ skF b n (n - p) p then (0, n, skF b n (n - p) p, 0)
  else if (b (skF b n (n - p) p)).toInt = 59 then (3, skF b n (n - p) p, skF b n (n - p) p + 1, 0)
  else if dtF b (skF b n (n - p) p) (rnF b n (n - skF b n (n - p) p) (skF b n (n - p) p) - skF b n (n - p) p) = 0 ∧ 1 ≤ rnF b n (n - skF b n (n - p) p) (skF b n (n - p) p) - skF b n (n - p) p ∧ rnF b n (n - skF b n (n - p) p) (skF b n (n - p) p) - skF b n (n - p) p ≤ 12 then
    (1, skF b n (n - p) p, rnF b n (n - skF b n (n - p) p) (skF b n (n - p) p), 0)
  else if ltF b (skF b n (n - p) p) (rnF b n (n - skF b n (n - p) p) (skF b n (n - p) p) - skF b n (n - p) p) = 0 ∧ 1 ≤ rnF b n (n - skF b n (n - p) p) (skF b n (n - p) p) - skF b n (n - p) p ∧ rnF b n (n - skF b n (n - p) p) (skF b n (n - p) p) - skF b n (n - p) p ≤ 3 then
    (2, skF b n (n - p) p, rnF b n (n - skF b n (n - p) p) (skF b n (n - p) p), vlF b (skF b n (n - p) p) (rnF b n (n - skF b n (n - p) p) (skF b n (n - p) p) - skF b n (n - p) p))
  else (4, skF b n (n - p) p, rnF b n (n - skF b n (n - p) p) (skF b n (n - p) p), 0)
set_option maxRecDepth 8000 in
theorem skF_ge {b : fB} {n : Nat} : ∀ (f p : Nat), p ≤ skF b n f p
  | 0, p => Nat.le_refl p
  | f + 1, p => by
    unfold skF
    by_cases h : p < n ∧ f_bl (b p)
    · rw [if_pos h]; have := skF_ge (b := b) (n := n) f (p + 1); omega
    · rw [if_neg h]; exact Nat.le_refl p
set_option maxRecDepth 8000 in
theorem skF_le {b : fB} {n : Nat} : ∀ (f p : Nat), p ≤ n → skF b n f p ≤ n
  | 0, p, h => h
  | f + 1, p, h => by
    unfold skF
    by_cases h2 : p < n ∧ f_bl (b p)
    · rw [if_pos h2]; exact skF_le f (p + 1) (by omega)
    · rw [if_neg h2]; exact h
set_option maxRecDepth 8000 in
theorem rnF_ge {b : fB} {n : Nat} : ∀ (f p : Nat), p ≤ rnF b n f p
  | 0, p => Nat.le_refl p
  | f + 1, p => by
    unfold rnF
    by_cases h : p < n ∧ (f_sm (b p) ∨ f_dg (b p))
    · rw [if_pos h]; have := rnF_ge (b := b) (n := n) f (p + 1); omega
    · rw [if_neg h]; exact Nat.le_refl p
set_option maxRecDepth 8000 in
theorem rnF_le {b : fB} {n : Nat} : ∀ (f p : Nat), p ≤ n → rnF b n f p ≤ n
  | 0, p, h => h
  | f + 1, p, h => by
    unfold rnF
    by_cases h2 : p < n ∧ (f_sm (b p) ∨ f_dg (b p))
    · rw [if_pos h2]; exact rnF_le f (p + 1) (by omega)
    · rw [if_neg h2]; exact h
set_option maxRecDepth 8000 in
/-- what lies between is of letters and digits -/
theorem rnF_in {b : fB} {n : Nat} : ∀ (f p i : Nat), p ≤ i → i < rnF b n f p → i < n ∧ (f_sm (b i) ∨ f_dg (b i))
  | 0, p, i, h, h2 => by have : i < p := h2; omega
  | f + 1, p, i, h, h2 => by
    unfold rnF at h2
    by_cases h3 : p < n ∧ (f_sm (b p) ∨ f_dg (b p))
    · rw [if_pos h3] at h2
      by_cases e : i = p
      · rw [e]; exact h3
      · exact rnF_in f (p + 1) i (by omega) h2
    · rw [if_neg h3] at h2; omega
set_option maxRecDepth 8000 in
theorem ltdt {b : fB} {q : Nat} : ∀ k : Nat, (∀ i, i < k → f_sm (b (q + i)) ∨ f_dg (b (q + i))) → ltF b q k + dtF b q k = k
  | 0, _ => rfl
  | k + 1, h => by
    have h1 := ltdt (b := b) (q := q) k (fun i hi => h i (by omega))
    have h2 := h k (by omega)
    unfold ltF dtF
    rcases h2 with h2 | h2
    · rw [if_pos h2, if_neg (by omega)]; omega
    · rw [if_neg (by omega), if_pos h2]; omega
set_option maxRecDepth 8000 in
theorem dtF_0 {b : fB} {q : Nat} : ∀ k : Nat, dtF b q k = 0 → (∀ i, i < k → f_sm (b (q + i)) ∨ f_dg (b (q + i))) → ∀ i, i < k → f_sm (b (q + i))
  | 0, _, _, i, hi => absurd hi (Nat.not_lt_zero i)
  | k + 1, h, ha, i, hi => by
    unfold dtF at h
    by_cases e : i = k
    · subst e
      rcases ha i (by omega) with q1 | q1
      · exact q1
      · rw [if_pos q1] at h; omega
    · exact dtF_0 k (by omega) (fun j hj => ha j (by omega)) i (by omega)
set_option maxRecDepth 8000 in
theorem ltF_0 {b : fB} {q : Nat} : ∀ k : Nat, ltF b q k = 0 → (∀ i, i < k → f_sm (b (q + i)) ∨ f_dg (b (q + i))) → ∀ i, i < k → f_dg (b (q + i))
  | 0, _, _, i, hi => absurd hi (Nat.not_lt_zero i)
  | k + 1, h, ha, i, hi => by
    unfold ltF at h
    by_cases e : i = k
    · subst e
      rcases ha i (by omega) with q1 | q1
      · rw [if_pos q1] at h; omega
      · exact q1
    · exact ltF_0 k (by omega) (fun j hj => ha j (by omega)) i (by omega)
set_option maxRecDepth 8000 in
/-- a token is within -/
theorem tkF_in {b : fB} {n m p : Nat} (hp : p ≤ n) : (tkF b n m p).2.1 ≤ n ∧ p ≤ (tkF b n m p).2.2.1 ∧ (tkF b n m p).2.2.1 ≤ n ∧ ((tkF b n m p).1 = 1 ∨ (tkF b n m p).1 = 2 ∨ (tkF b n m p).1 = 3 → p < (tkF b n m p).2.2.1 ∧ (tkF b n m p).2.1 < (tkF b n m p).2.2.1) := by
  have h1 := skF_ge (b := b) (n := n) (n - p) p
  have h2 := skF_le (b := b) (n := n) (n - p) p hp
  have h3 := rnF_ge (b := b) (n := n) (n - skF b n (n - p) p) (skF b n (n - p) p)
  have h4 := rnF_le (b := b) (n := n) (n - skF b n (n - p) p) (skF b n (n - p) p) h2
  unfold tkF
  by_cases c1 : m < n ∧ m ≤ skF b n (n - p) p
  · rw [if_pos c1]; dsimp only; omega
  rw [if_neg c1]
  by_cases c2 : n ≤ skF b n (n - p) p
  · rw [if_pos c2]; dsimp only; omega
  rw [if_neg c2]
  by_cases c3 : (b (skF b n (n - p) p)).toInt = 59
  · rw [if_pos c3]; dsimp only; omega
  rw [if_neg c3]
  split
  · dsimp only; omega
  · split <;> (dsimp only; omega)
set_option maxRecDepth 8000 in
/-- memory: writing twice, writing what is there -/
theorem up_up {α : Type} {I : Nat → Nat → α} {a j : Nat} {x y : α} : dw_up (dw_up I a j x) a j y = dw_up I a j y := by
  funext a' j'
  unfold dw_up
  by_cases h : a' = a
  · by_cases h2 : j' = j
    · simp [h, h2]
    · simp [h, h2]
  · simp [h]
set_option maxRecDepth 8000 in
theorem up_id {α : Type} {I : Nat → Nat → α} {a j : Nat} {x : α} (h : x = I a j) : dw_up I a j x = I := by
  funext a' j'
  unfold dw_up
  by_cases h1 : a' = a
  · rw [if_pos h1]
    by_cases h2 : j' = j
    · rw [if_pos h2, h, h1, h2]
    · rw [if_neg h2]
  · rw [if_neg h1]
set_option maxRecDepth 8000 in
theorem up_row {α : Type} {I : Nat → Nat → α} {a j a' : Nat} {x : α} (h : a' ≠ a) : dw_up I a j x a' = I a' := by
  funext j'
  unfold dw_up
  rw [if_neg h]
set_option maxRecDepth 8000 in
theorem up_fld {α : Type} {I : Nat → Nat → α} {a j a' j' : Nat} {x : α} (h : j' ≠ j) : dw_up I a j x a' j' = I a' j' := by
  unfold dw_up
  by_cases h1 : a' = a
  · rw [if_pos h1, if_neg h]
  · rw [if_neg h1]
set_option maxRecDepth 8000 in
theorem up_same {α : Type} {I : Nat → Nat → α} {a j : Nat} {x : α} : dw_up I a j x a j = x := by
  unfold dw_up
  rw [if_pos rfl, if_pos rfl]
set_option maxRecDepth 8000 in
theorem oN {k : Nat} (h : k < 2147483648) : (Int32.ofNat k).toInt = k := Int32.toInt_ofNat_of_lt (by omega)
set_option maxRecDepth 8000 in
theorem i_eq {x y : Int32} (h : x.toInt = y.toInt) : x = y := dx_eqI.mpr h
/-- bytes of the class's tape, cut where it ends -/
def tbC (I : Nat → Nat → Int32) : fB := fun k => if (k : Int) < (I 1 1).toInt then I 2 k else 0
set_option maxRecDepth 8000 in
theorem tbC_in {I : Nat → Nat → Int32} {k : Nat} (h : (k : Int) < (I 1 1).toInt) : tbC I k = I 2 k := if_pos h
set_option maxRecDepth 8000 in
theorem tbC_eq {I I' : Nat → Nat → Int32} (h1 : I' 1 1 = I 1 1) (h2 : I' 2 = I 2) : tbC I' = tbC I := by
  funext k
  unfold tbC
  rw [h1, h2]
end
section
set_option maxRecDepth 8000 in
theorem v_byteAt {n : Nat} {I : Nat → Nat → Int32} {J : Nat → Nat → Int64} {K : dw_K} {i : Int32} (h0 : 0 ≤ i.toInt) (h1 : i.toInt < 940) (hk : K (some (.int (I 2 i.toInt.toNat))) (n, SH1, I, J)) : t_X9_byteAt [.ref 1, .int i] (n, SH1, I, J) K := by
  refine q_body (Nat.le_of_ble_eq_true rfl) ?_
  refine q_ild rfl rfl ?_
  refine q_if (c := 2) rfl (by decide) (fun h => absurd (show (i).toInt < 0 from h) (by omega)) (fun y1 => ?_)
  have y1 : 0 ≤ (i).toInt := y1
  refine q_ild rfl rfl ?_
  refine q_ald rfl rfl ?_
  refine q_getr rfl sk_1 sr_1_0 ?_
  refine q_alen2 (kd := 16) (N := 940) rfl sk_2 sn_2 (by decide) (by decide) ?_
  refine q_icmp (c := 3) rfl (by decide) (fun h => absurd (show (940 : Int) ≤ (i).toInt from h) (by omega)) (fun y2 => ?_)
  have y2 : (i).toInt < (940 : Int) := y2
  refine q_ald rfl rfl ?_
  refine q_getr rfl sk_1 sr_1_0 ?_
  refine q_ild rfl rfl ?_
  refine q_xald rfl (Or.inl rfl) sk_2 sn_2 (by omega) (by omega) ?_
  refine q_goto rfl ?_
  exact q_iret rfl hk
set_option maxRecDepth 8000 in
theorem v_fail {n : Nat} {I : Nat → Nat → Int32} {J : Nat → Nat → Int64} {K : dw_K} {c : Int32} (hk : K (some (.int 0)) (n, SH1, dw_up (dw_up I 1 7 c) 1 8 (I 1 4), J)) : t_X9_fail [.ref 1, .int c] (n, SH1, I, J) K := by
  refine q_body (Nat.le_of_ble_eq_true rfl) ?_
  refine q_ald rfl rfl ?_
  refine q_ild rfl rfl ?_
  refine q_puti rfl sk_1 ?_
  show dw_ok (pr_X9_fail K) 5 0 0 [some (.ref 1), some (.int c)] [] (n, SH1, (dw_up I 1 7 c), J)
  refine q_ald rfl rfl ?_
  refine q_ald rfl rfl ?_
  refine q_geti rfl sk_1 ?_
  refine q_puti rfl sk_1 ?_
  show dw_ok (pr_X9_fail K) 13 0 0 [some (.ref 1), some (.int c)] [] (n, SH1, (dw_up (dw_up I 1 7 c) 1 8 (I 1 4)), J)
  refine q_ic rfl ?_
  exact q_zret rfl (Or.inl rfl) hk
set_option maxRecDepth 8000 in
theorem v_tokenSize {n : Nat} {I : Nat → Nat → Int32} {J : Nat → Nat → Int64} {K : dw_K} (hk : K (some (.int (I 1 3 - I 1 4))) (n, SH1, I, J)) : t_X9_tokenSize [.ref 1] (n, SH1, I, J) K := by
  refine q_body (Nat.le_of_ble_eq_true rfl) ?_
  refine q_ald rfl rfl ?_
  refine q_geti rfl sk_1 ?_
  refine q_ald rfl rfl ?_
  refine q_geti rfl sk_1 ?_
  refine q_sub rfl ?_
  exact q_iret rfl hk
set_option maxRecDepth 8000 in
theorem v_open {n : Nat} {I : Nat → Nat → Int32} {J : Nat → Nat → Int64} {K : dw_K} {c : Int32} (hk : K none (n, SH1, dw_up (dw_up (dw_up (dw_up (dw_up I 1 2 c) 1 3 0) 1 4 0) 1 7 0) 1 8 0, J)) : t_X9_open [.ref 1, .int c] (n, SH1, I, J) K := by
  refine q_body (Nat.le_of_ble_eq_true rfl) ?_
  refine q_ald rfl rfl ?_
  refine q_ild rfl rfl ?_
  refine q_puti rfl sk_1 ?_
  show dw_ok (pr_X9_open K) 5 0 0 [some (.ref 1), some (.int c)] [] (n, SH1, (dw_up I 1 2 c), J)
  refine q_ald rfl rfl ?_
  refine q_ic rfl ?_
  refine q_puti rfl sk_1 ?_
  show dw_ok (pr_X9_open K) 10 0 0 [some (.ref 1), some (.int c)] [] (n, SH1, (dw_up (dw_up I 1 2 c) 1 3 (0 : Int32)), J)
  refine q_ald rfl rfl ?_
  refine q_ic rfl ?_
  refine q_puti rfl sk_1 ?_
  show dw_ok (pr_X9_open K) 15 0 0 [some (.ref 1), some (.int c)] [] (n, SH1, (dw_up (dw_up (dw_up I 1 2 c) 1 3 (0 : Int32)) 1 4 (0 : Int32)), J)
  refine q_ald rfl rfl ?_
  refine q_ic rfl ?_
  refine q_puti rfl sk_1 ?_
  show dw_ok (pr_X9_open K) 20 0 0 [some (.ref 1), some (.int c)] [] (n, SH1, (dw_up (dw_up (dw_up (dw_up I 1 2 c) 1 3 (0 : Int32)) 1 4 (0 : Int32)) 1 7 (0 : Int32)), J)
  refine q_ald rfl rfl ?_
  refine q_ic rfl ?_
  refine q_puti rfl sk_1 ?_
  show dw_ok (pr_X9_open K) 25 0 0 [some (.ref 1), some (.int c)] [] (n, SH1, (dw_up (dw_up (dw_up (dw_up (dw_up I 1 2 c) 1 3 (0 : Int32)) 1 4 (0 : Int32)) 1 7 (0 : Int32)) 1 8 (0 : Int32)), J)
  exact q_vret rfl hk
def kdF (l d k : Nat) : Nat := if d = 0 ∧ 1 ≤ k ∧ k ≤ 12 then 1 else if l = 0 ∧ 1 ≤ k ∧ k ≤ 3 then 2 else 4
set_option maxRecDepth 8000 in
set_option maxHeartbeats 2000000 in
theorem wn_loop {n : Nat} {J : Nat → Nat → Int64} {K : dw_K} {bc bs : Nat} {I0 : Nat → Nat → Int32} {q N : Nat} (hN : (I0 1 1).toInt = N) (hN9 : N ≤ 940)
    (hk : ∀ (k : Nat) (I : Nat → Nat → Int32) (l d : Int32) (s3 : Option Value), q + k ≤ N → rnF (tbC I0) N (N - q) q = q + k → (∀ a, a ≠ 1 → I a = I0 a) → (∀ j, j ≠ 3 → j ≠ 6 → I 1 j = I0 1 j) → (I 1 3).toInt = (q + k : Nat) → l.toInt = ltF (tbC I0) q k → d.toInt = dtF (tbC I0) q k → (ltF (tbC I0) q k = 0 ∧ k ≤ 3 → I 1 6 = vlF (tbC I0) q k) → dw_ok (pr_X9_takeWordOrNumber K) 114 bc bs [some (.ref 1), some (.int l), some (.int d), s3] [] (n, SH1, I, J)) :
    ∀ (f k : Nat) (I : Nat → Nat → Int32) (l d : Int32) (s3 : Option Value), q + k ≤ N → N - (q + k) ≤ f → rnF (tbC I0) N (N - q) q = rnF (tbC I0) N (N - (q + k)) (q + k) → (∀ a, a ≠ 1 → I a = I0 a) → (∀ j, j ≠ 3 → j ≠ 6 → I 1 j = I0 1 j) → (I 1 3).toInt = (q + k : Nat) → l.toInt = ltF (tbC I0) q k → d.toInt = dtF (tbC I0) q k → (∀ i, i < k → f_sm (tbC I0 (q + i)) ∨ f_dg (tbC I0 (q + i))) → (ltF (tbC I0) q k = 0 ∧ k ≤ 3 → I 1 6 = vlF (tbC I0) q k) → dw_ok (pr_X9_takeWordOrNumber K) 9 bc bs [some (.ref 1), some (.int l), some (.int d), s3] [] (n, SH1, I, J) := by
  intro f
  induction f with
  | zero =>
    intro k I l d s3 hqk hf hr hA hF h3 hl hd hall hv
    have h11 : I 1 1 = I0 1 1 := hF 1 (by decide) (by decide)
    have h2 : I 2 = I0 2 := hA 2 (by decide)
    have hlk := ltdt (b := tbC I0) (q := q) k hall
    have hi : (I 1 3).toInt.toNat = q + k := by omega
    have hb : q + k < N → tbC I0 (q + k) = I 2 (I 1 3).toInt.toNat := fun hlt => by rw [hi, h2]; exact tbC_in (by omega)
    rw [← h11] at hN
    refine q_ald rfl rfl ?_
    refine q_geti rfl sk_1 ?_
    refine q_ald rfl rfl ?_
    refine q_geti rfl sk_1 ?_
    refine q_icmp (c := 3) rfl (by decide) (fun y1 => ?_) (fun h => absurd (show ((I 1 3)).toInt < ((I 1 1)).toInt from h) (by omega))
    have y1 : ((I 1 1)).toInt ≤ ((I 1 3)).toInt := y1
    have er : rnF (tbC I0) N (N - (q + k)) (q + k) = q + k := by
      by_cases hlt : q + k < N
      · rw [show N - (q + k) = (N - (q + k) - 1) + 1 by omega]
        unfold rnF
        rw [if_neg (fun h => by have hh := h.2; rw [hb hlt] at hh; omega)]
      · rw [show N - (q + k) = 0 by omega]
        rfl
    exact hk k I l d _ hqk (hr.trans er) hA hF h3 hl hd hv
  | succ f ih =>
    intro k I l d s3 hqk hf hr hA hF h3 hl hd hall hv
    have h11 : I 1 1 = I0 1 1 := hF 1 (by decide) (by decide)
    have h2 : I 2 = I0 2 := hA 2 (by decide)
    have hlk := ltdt (b := tbC I0) (q := q) k hall
    have hi : (I 1 3).toInt.toNat = q + k := by omega
    have hb : q + k < N → tbC I0 (q + k) = I 2 (I 1 3).toInt.toNat := fun hlt => by rw [hi, h2]; exact tbC_in (by omega)
    rw [← h11] at hN
    refine q_ald rfl rfl ?_
    refine q_geti rfl sk_1 ?_
    refine q_ald rfl rfl ?_
    refine q_geti rfl sk_1 ?_
    refine q_icmp (c := 3) rfl (by decide) (fun y2 => ?_) (fun y2 => ?_)
    · have y2 : ((I 1 1)).toInt ≤ ((I 1 3)).toInt := y2
      have er : rnF (tbC I0) N (N - (q + k)) (q + k) = q + k := by
        by_cases hlt : q + k < N
        · rw [show N - (q + k) = (N - (q + k) - 1) + 1 by omega]
          unfold rnF
          rw [if_neg (fun h => by have hh := h.2; rw [hb hlt] at hh; omega)]
        · rw [show N - (q + k) = 0 by omega]
          rfl
      exact hk k I l d _ hqk (hr.trans er) hA hF h3 hl hd hv
    · have y2 : ((I 1 3)).toInt < ((I 1 1)).toInt := y2
      refine q_ald rfl rfl ?_
      refine q_geti rfl sk_1 ?_
      refine q_ic rfl ?_
      refine q_icmp (c := 3) rfl (by decide) (fun h => absurd (show (940 : Int) ≤ ((I 1 3)).toInt from h) (by omega)) (fun y3 => ?_)
      have y3 : ((I 1 3)).toInt < (940 : Int) := y3
      refine q_ald rfl rfl ?_
      refine q_getr rfl sk_1 sr_1_0 ?_
      refine q_ald rfl rfl ?_
      refine q_geti rfl sk_1 ?_
      show dw_ok (pr_X9_takeWordOrNumber K) 38 bc bs [some (.ref 1), some (.int l), some (.int d), s3] [.int (I 1 3), .ref 2] (n, SH1, I, J)
      refine q_xald rfl (Or.inl rfl) sk_2 sn_2 (by omega) (by omega) ?_
      refine q_ist rfl rfl ?_
      show dw_ok (pr_X9_takeWordOrNumber K) 40 bc bs [some (.ref 1), some (.int l), some (.int d), some (.int (I 2 ((I 1 3)).toInt.toNat))] [] (n, SH1, I, J)
      refine q_ild rfl rfl ?_
      refine q_ic rfl ?_
      refine q_icmp (c := 2) rfl (by decide) (fun y4 => ?_) (fun y4 => ?_)
      · have y4 : ((I 2 ((I 1 3)).toInt.toNat)).toInt < (97 : Int) := y4
        refine q_ild rfl rfl ?_
        refine q_ic rfl ?_
        refine q_icmp (c := 2) rfl (by decide) (fun y5 => ?_) (fun y5 => ?_)
        · have y5 : ((I 2 ((I 1 3)).toInt.toNat)).toInt < (48 : Int) := y5
          have er : rnF (tbC I0) N (N - (q + k)) (q + k) = q + k := by
            by_cases hlt : q + k < N
            · rw [show N - (q + k) = (N - (q + k) - 1) + 1 by omega]
              unfold rnF
              rw [if_neg (fun h => by have hh := h.2; rw [hb hlt] at hh; omega)]
            · rw [show N - (q + k) = 0 by omega]
              rfl
          exact hk k I l d _ hqk (hr.trans er) hA hF h3 hl hd hv
        · have y5 : (48 : Int) ≤ ((I 2 ((I 1 3)).toInt.toNat)).toInt := y5
          refine q_ild rfl rfl ?_
          refine q_ic rfl ?_
          refine q_icmp (c := 4) rfl (by decide) (fun y6 => ?_) (fun y6 => ?_)
          · have y6 : (57 : Int) < ((I 2 ((I 1 3)).toInt.toNat)).toInt := y6
            have er : rnF (tbC I0) N (N - (q + k)) (q + k) = q + k := by
              by_cases hlt : q + k < N
              · rw [show N - (q + k) = (N - (q + k) - 1) + 1 by omega]
                unfold rnF
                rw [if_neg (fun h => by have hh := h.2; rw [hb hlt] at hh; omega)]
              · rw [show N - (q + k) = 0 by omega]
                rfl
            exact hk k I l d _ hqk (hr.trans er) hA hF h3 hl hd hv
          · have y6 : ((I 2 ((I 1 3)).toInt.toNat)).toInt ≤ (57 : Int) := y6
            refine q_inc rfl rfl rfl ?_
            show dw_ok (pr_X9_takeWordOrNumber K) 73 bc bs [some (.ref 1), some (.int l), some (.int (d + 1)), some (.int (I 2 ((I 1 3)).toInt.toNat))] [] (n, SH1, I, J)
            refine q_ald rfl rfl ?_
            refine q_ild rfl rfl ?_
            refine q_ic rfl ?_
            refine q_icmp (c := 4) rfl (by decide) (fun y7 => ?_) (fun y7 => ?_)
            · have y7 : (3 : Int) < ((d + 1)).toInt := y7
              refine q_ald rfl rfl ?_
              refine q_geti rfl sk_1 ?_
              refine q_puti rfl sk_1 ?_
              show dw_ok (pr_X9_takeWordOrNumber K) 101 bc bs [some (.ref 1), some (.int l), some (.int (d + 1)), some (.int (I 2 ((I 1 3)).toInt.toNat))] [] (n, SH1, (dw_up I 1 6 (I 1 6)), J)
              refine q_ald rfl rfl ?_
              refine q_dup rfl ?_
              refine q_geti rfl sk_1 ?_
              refine q_ic rfl ?_
              refine q_add rfl ?_
              refine q_puti rfl sk_1 ?_
              show dw_ok (pr_X9_takeWordOrNumber K) 111 bc bs [some (.ref 1), some (.int l), some (.int (d + 1)), some (.int (I 2 ((I 1 3)).toInt.toNat))] [] (n, SH1, (dw_up (dw_up I 1 6 (I 1 6)) 1 3 ((I 1 3) + (1 : Int32))), J)
              refine q_goto rfl ?_
              have hlt : q + k < N := by omega
              have hbk := hb hlt
              have c1 : (1 : Int32).toInt = 1 := rfl
              have hch : f_sm (tbC I0 (q + k)) ∨ f_dg (tbC I0 (q + k)) := by rw [hbk]; exact Or.inr (by omega)
              have er : rnF (tbC I0) N (N - (q + k)) (q + k) = rnF (tbC I0) N (N - (q + (k + 1))) (q + (k + 1)) := by
                rw [show N - (q + k) = (N - (q + (k + 1))) + 1 by omega]
                conv => lhs; unfold rnF
                rw [if_pos ⟨hlt, hch⟩, show q + k + 1 = q + (k + 1) by omega]
              have el : ltF (tbC I0) q (k + 1) = ltF (tbC I0) q k + 0 := by show ltF (tbC I0) q k + (if f_sm (tbC I0 (q + k)) then 1 else 0) = _; rw [hbk, if_neg (by omega)]
              have ed : dtF (tbC I0) q (k + 1) = dtF (tbC I0) q k + 1 := by show dtF (tbC I0) q k + (if f_dg (tbC I0 (q + k)) then 1 else 0) = _; rw [hbk, if_pos (by omega)]
              have tn : ((I 1 3) + 1).toInt = (I 1 3).toInt + 1 := by rw [i_add (by omega) (by omega), c1]
              have tl : ((d + 1)).toInt = (d).toInt + 1 := by rw [i_add (by omega) (by omega), c1]
              refine ih (k + 1) (dw_up (dw_up I 1 6 (I 1 6)) 1 3 ((I 1 3) + (1 : Int32))) (l) ((d + 1)) _ (by omega) (by omega) (hr.trans er) (fun a ha => ?_) (fun j h1 h2 => ?_) ?_ (by omega) (by omega) (fun i hi => ?_) (fun h => ?_)
              · rw [← hA a ha]; funext j; simp [dw_up, ha]
              · rw [← hF j h1 h2]; simp [dw_up, h1, h2]
              · show ((I 1 3) + 1).toInt = _; omega
              · by_cases e : i = k
                · rw [e]; exact hch
                · exact hall i (by omega)
              · omega
            · have y7 : ((d + 1)).toInt ≤ (3 : Int) := y7
              refine q_ic rfl ?_
              refine q_ald rfl rfl ?_
              refine q_geti rfl sk_1 ?_
              refine q_mul rfl ?_
              refine q_ild rfl rfl ?_
              refine q_add rfl ?_
              refine q_ic rfl ?_
              refine q_sub rfl ?_
              refine q_goto rfl ?_
              refine q_puti rfl sk_1 ?_
              show dw_ok (pr_X9_takeWordOrNumber K) 101 bc bs [some (.ref 1), some (.int l), some (.int (d + 1)), some (.int (I 2 ((I 1 3)).toInt.toNat))] [] (n, SH1, (dw_up I 1 6 ((((10 : Int32) * (I 1 6)) + (I 2 ((I 1 3)).toInt.toNat)) - (48 : Int32))), J)
              refine q_ald rfl rfl ?_
              refine q_dup rfl ?_
              refine q_geti rfl sk_1 ?_
              refine q_ic rfl ?_
              refine q_add rfl ?_
              refine q_puti rfl sk_1 ?_
              show dw_ok (pr_X9_takeWordOrNumber K) 111 bc bs [some (.ref 1), some (.int l), some (.int (d + 1)), some (.int (I 2 ((I 1 3)).toInt.toNat))] [] (n, SH1, (dw_up (dw_up I 1 6 ((((10 : Int32) * (I 1 6)) + (I 2 ((I 1 3)).toInt.toNat)) - (48 : Int32))) 1 3 ((I 1 3) + (1 : Int32))), J)
              refine q_goto rfl ?_
              have hlt : q + k < N := by omega
              have hbk := hb hlt
              have c1 : (1 : Int32).toInt = 1 := rfl
              have hch : f_sm (tbC I0 (q + k)) ∨ f_dg (tbC I0 (q + k)) := by rw [hbk]; exact Or.inr (by omega)
              have er : rnF (tbC I0) N (N - (q + k)) (q + k) = rnF (tbC I0) N (N - (q + (k + 1))) (q + (k + 1)) := by
                rw [show N - (q + k) = (N - (q + (k + 1))) + 1 by omega]
                conv => lhs; unfold rnF
                rw [if_pos ⟨hlt, hch⟩, show q + k + 1 = q + (k + 1) by omega]
              have el : ltF (tbC I0) q (k + 1) = ltF (tbC I0) q k + 0 := by show ltF (tbC I0) q k + (if f_sm (tbC I0 (q + k)) then 1 else 0) = _; rw [hbk, if_neg (by omega)]
              have ed : dtF (tbC I0) q (k + 1) = dtF (tbC I0) q k + 1 := by show dtF (tbC I0) q k + (if f_dg (tbC I0 (q + k)) then 1 else 0) = _; rw [hbk, if_pos (by omega)]
              have tn : ((I 1 3) + 1).toInt = (I 1 3).toInt + 1 := by rw [i_add (by omega) (by omega), c1]
              have tl : ((d + 1)).toInt = (d).toInt + 1 := by rw [i_add (by omega) (by omega), c1]
              refine ih (k + 1) (dw_up (dw_up I 1 6 ((((10 : Int32) * (I 1 6)) + (I 2 ((I 1 3)).toInt.toNat)) - (48 : Int32))) 1 3 ((I 1 3) + (1 : Int32))) (l) ((d + 1)) _ (by omega) (by omega) (hr.trans er) (fun a ha => ?_) (fun j h1 h2 => ?_) ?_ (by omega) (by omega) (fun i hi => ?_) (fun h => ?_)
              · rw [← hA a ha]; funext j; simp [dw_up, ha]
              · rw [← hF j h1 h2]; simp [dw_up, h1, h2]
              · show ((I 1 3) + 1).toInt = _; omega
              · by_cases e : i = k
                · rw [e]; exact hch
                · exact hall i (by omega)
              · have hv2 := hv ⟨by omega, by omega⟩
                show ((10 : Int32) * (I 1 6)) + _ - 48 = 10 * vlF (tbC I0) q k + tbC I0 (q + k) - 48
                rw [hv2, hbk]
      · have y4 : (97 : Int) ≤ ((I 2 ((I 1 3)).toInt.toNat)).toInt := y4
        refine q_ild rfl rfl ?_
        refine q_ic rfl ?_
        refine q_icmp (c := 4) rfl (by decide) (fun y8 => ?_) (fun y8 => ?_)
        · have y8 : (122 : Int) < ((I 2 ((I 1 3)).toInt.toNat)).toInt := y8
          refine q_ild rfl rfl ?_
          refine q_ic rfl ?_
          refine q_icmp (c := 2) rfl (by decide) (fun y9 => ?_) (fun y9 => ?_)
          · have y9 : ((I 2 ((I 1 3)).toInt.toNat)).toInt < (48 : Int) := y9
            have er : rnF (tbC I0) N (N - (q + k)) (q + k) = q + k := by
              by_cases hlt : q + k < N
              · rw [show N - (q + k) = (N - (q + k) - 1) + 1 by omega]
                unfold rnF
                rw [if_neg (fun h => by have hh := h.2; rw [hb hlt] at hh; omega)]
              · rw [show N - (q + k) = 0 by omega]
                rfl
            exact hk k I l d _ hqk (hr.trans er) hA hF h3 hl hd hv
          · have y9 : (48 : Int) ≤ ((I 2 ((I 1 3)).toInt.toNat)).toInt := y9
            refine q_ild rfl rfl ?_
            refine q_ic rfl ?_
            refine q_icmp (c := 4) rfl (by decide) (fun y10 => ?_) (fun y10 => ?_)
            · have y10 : (57 : Int) < ((I 2 ((I 1 3)).toInt.toNat)).toInt := y10
              have er : rnF (tbC I0) N (N - (q + k)) (q + k) = q + k := by
                by_cases hlt : q + k < N
                · rw [show N - (q + k) = (N - (q + k) - 1) + 1 by omega]
                  unfold rnF
                  rw [if_neg (fun h => by have hh := h.2; rw [hb hlt] at hh; omega)]
                · rw [show N - (q + k) = 0 by omega]
                  rfl
              exact hk k I l d _ hqk (hr.trans er) hA hF h3 hl hd hv
            · have y10 : ((I 2 ((I 1 3)).toInt.toNat)).toInt ≤ (57 : Int) := y10
              refine q_inc rfl rfl rfl ?_
              show dw_ok (pr_X9_takeWordOrNumber K) 73 bc bs [some (.ref 1), some (.int l), some (.int (d + 1)), some (.int (I 2 ((I 1 3)).toInt.toNat))] [] (n, SH1, I, J)
              refine q_ald rfl rfl ?_
              refine q_ild rfl rfl ?_
              refine q_ic rfl ?_
              refine q_icmp (c := 4) rfl (by decide) (fun y11 => ?_) (fun y11 => ?_)
              · have y11 : (3 : Int) < ((d + 1)).toInt := y11
                refine q_ald rfl rfl ?_
                refine q_geti rfl sk_1 ?_
                refine q_puti rfl sk_1 ?_
                show dw_ok (pr_X9_takeWordOrNumber K) 101 bc bs [some (.ref 1), some (.int l), some (.int (d + 1)), some (.int (I 2 ((I 1 3)).toInt.toNat))] [] (n, SH1, (dw_up I 1 6 (I 1 6)), J)
                refine q_ald rfl rfl ?_
                refine q_dup rfl ?_
                refine q_geti rfl sk_1 ?_
                refine q_ic rfl ?_
                refine q_add rfl ?_
                refine q_puti rfl sk_1 ?_
                show dw_ok (pr_X9_takeWordOrNumber K) 111 bc bs [some (.ref 1), some (.int l), some (.int (d + 1)), some (.int (I 2 ((I 1 3)).toInt.toNat))] [] (n, SH1, (dw_up (dw_up I 1 6 (I 1 6)) 1 3 ((I 1 3) + (1 : Int32))), J)
                refine q_goto rfl ?_
                have hlt : q + k < N := by omega
                have hbk := hb hlt
                have c1 : (1 : Int32).toInt = 1 := rfl
                have hch : f_sm (tbC I0 (q + k)) ∨ f_dg (tbC I0 (q + k)) := by rw [hbk]; exact Or.inr (by omega)
                have er : rnF (tbC I0) N (N - (q + k)) (q + k) = rnF (tbC I0) N (N - (q + (k + 1))) (q + (k + 1)) := by
                  rw [show N - (q + k) = (N - (q + (k + 1))) + 1 by omega]
                  conv => lhs; unfold rnF
                  rw [if_pos ⟨hlt, hch⟩, show q + k + 1 = q + (k + 1) by omega]
                have el : ltF (tbC I0) q (k + 1) = ltF (tbC I0) q k + 0 := by show ltF (tbC I0) q k + (if f_sm (tbC I0 (q + k)) then 1 else 0) = _; rw [hbk, if_neg (by omega)]
                have ed : dtF (tbC I0) q (k + 1) = dtF (tbC I0) q k + 1 := by show dtF (tbC I0) q k + (if f_dg (tbC I0 (q + k)) then 1 else 0) = _; rw [hbk, if_pos (by omega)]
                have tn : ((I 1 3) + 1).toInt = (I 1 3).toInt + 1 := by rw [i_add (by omega) (by omega), c1]
                have tl : ((d + 1)).toInt = (d).toInt + 1 := by rw [i_add (by omega) (by omega), c1]
                refine ih (k + 1) (dw_up (dw_up I 1 6 (I 1 6)) 1 3 ((I 1 3) + (1 : Int32))) (l) ((d + 1)) _ (by omega) (by omega) (hr.trans er) (fun a ha => ?_) (fun j h1 h2 => ?_) ?_ (by omega) (by omega) (fun i hi => ?_) (fun h => ?_)
                · rw [← hA a ha]; funext j; simp [dw_up, ha]
                · rw [← hF j h1 h2]; simp [dw_up, h1, h2]
                · show ((I 1 3) + 1).toInt = _; omega
                · by_cases e : i = k
                  · rw [e]; exact hch
                  · exact hall i (by omega)
                · omega
              · have y11 : ((d + 1)).toInt ≤ (3 : Int) := y11
                refine q_ic rfl ?_
                refine q_ald rfl rfl ?_
                refine q_geti rfl sk_1 ?_
                refine q_mul rfl ?_
                refine q_ild rfl rfl ?_
                refine q_add rfl ?_
                refine q_ic rfl ?_
                refine q_sub rfl ?_
                refine q_goto rfl ?_
                refine q_puti rfl sk_1 ?_
                show dw_ok (pr_X9_takeWordOrNumber K) 101 bc bs [some (.ref 1), some (.int l), some (.int (d + 1)), some (.int (I 2 ((I 1 3)).toInt.toNat))] [] (n, SH1, (dw_up I 1 6 ((((10 : Int32) * (I 1 6)) + (I 2 ((I 1 3)).toInt.toNat)) - (48 : Int32))), J)
                refine q_ald rfl rfl ?_
                refine q_dup rfl ?_
                refine q_geti rfl sk_1 ?_
                refine q_ic rfl ?_
                refine q_add rfl ?_
                refine q_puti rfl sk_1 ?_
                show dw_ok (pr_X9_takeWordOrNumber K) 111 bc bs [some (.ref 1), some (.int l), some (.int (d + 1)), some (.int (I 2 ((I 1 3)).toInt.toNat))] [] (n, SH1, (dw_up (dw_up I 1 6 ((((10 : Int32) * (I 1 6)) + (I 2 ((I 1 3)).toInt.toNat)) - (48 : Int32))) 1 3 ((I 1 3) + (1 : Int32))), J)
                refine q_goto rfl ?_
                have hlt : q + k < N := by omega
                have hbk := hb hlt
                have c1 : (1 : Int32).toInt = 1 := rfl
                have hch : f_sm (tbC I0 (q + k)) ∨ f_dg (tbC I0 (q + k)) := by rw [hbk]; exact Or.inr (by omega)
                have er : rnF (tbC I0) N (N - (q + k)) (q + k) = rnF (tbC I0) N (N - (q + (k + 1))) (q + (k + 1)) := by
                  rw [show N - (q + k) = (N - (q + (k + 1))) + 1 by omega]
                  conv => lhs; unfold rnF
                  rw [if_pos ⟨hlt, hch⟩, show q + k + 1 = q + (k + 1) by omega]
                have el : ltF (tbC I0) q (k + 1) = ltF (tbC I0) q k + 0 := by show ltF (tbC I0) q k + (if f_sm (tbC I0 (q + k)) then 1 else 0) = _; rw [hbk, if_neg (by omega)]
                have ed : dtF (tbC I0) q (k + 1) = dtF (tbC I0) q k + 1 := by show dtF (tbC I0) q k + (if f_dg (tbC I0 (q + k)) then 1 else 0) = _; rw [hbk, if_pos (by omega)]
                have tn : ((I 1 3) + 1).toInt = (I 1 3).toInt + 1 := by rw [i_add (by omega) (by omega), c1]
                have tl : ((d + 1)).toInt = (d).toInt + 1 := by rw [i_add (by omega) (by omega), c1]
                refine ih (k + 1) (dw_up (dw_up I 1 6 ((((10 : Int32) * (I 1 6)) + (I 2 ((I 1 3)).toInt.toNat)) - (48 : Int32))) 1 3 ((I 1 3) + (1 : Int32))) (l) ((d + 1)) _ (by omega) (by omega) (hr.trans er) (fun a ha => ?_) (fun j h1 h2 => ?_) ?_ (by omega) (by omega) (fun i hi => ?_) (fun h => ?_)
                · rw [← hA a ha]; funext j; simp [dw_up, ha]
                · rw [← hF j h1 h2]; simp [dw_up, h1, h2]
                · show ((I 1 3) + 1).toInt = _; omega
                · by_cases e : i = k
                  · rw [e]; exact hch
                  · exact hall i (by omega)
                · have hv2 := hv ⟨by omega, by omega⟩
                  show ((10 : Int32) * (I 1 6)) + _ - 48 = 10 * vlF (tbC I0) q k + tbC I0 (q + k) - 48
                  rw [hv2, hbk]
        · have y8 : ((I 2 ((I 1 3)).toInt.toNat)).toInt ≤ (122 : Int) := y8
          refine q_inc rfl rfl rfl ?_
          show dw_ok (pr_X9_takeWordOrNumber K) 55 bc bs [some (.ref 1), some (.int (l + 1)), some (.int d), some (.int (I 2 ((I 1 3)).toInt.toNat))] [] (n, SH1, I, J)
          refine q_goto rfl ?_
          refine q_ald rfl rfl ?_
          refine q_dup rfl ?_
          refine q_geti rfl sk_1 ?_
          refine q_ic rfl ?_
          refine q_add rfl ?_
          refine q_puti rfl sk_1 ?_
          show dw_ok (pr_X9_takeWordOrNumber K) 111 bc bs [some (.ref 1), some (.int (l + 1)), some (.int d), some (.int (I 2 ((I 1 3)).toInt.toNat))] [] (n, SH1, (dw_up I 1 3 ((I 1 3) + (1 : Int32))), J)
          refine q_goto rfl ?_
          have hlt : q + k < N := by omega
          have hbk := hb hlt
          have c1 : (1 : Int32).toInt = 1 := rfl
          have hch : f_sm (tbC I0 (q + k)) ∨ f_dg (tbC I0 (q + k)) := by rw [hbk]; exact Or.inl (by omega)
          have er : rnF (tbC I0) N (N - (q + k)) (q + k) = rnF (tbC I0) N (N - (q + (k + 1))) (q + (k + 1)) := by
            rw [show N - (q + k) = (N - (q + (k + 1))) + 1 by omega]
            conv => lhs; unfold rnF
            rw [if_pos ⟨hlt, hch⟩, show q + k + 1 = q + (k + 1) by omega]
          have el : ltF (tbC I0) q (k + 1) = ltF (tbC I0) q k + 1 := by show ltF (tbC I0) q k + (if f_sm (tbC I0 (q + k)) then 1 else 0) = _; rw [hbk, if_pos (by omega)]
          have ed : dtF (tbC I0) q (k + 1) = dtF (tbC I0) q k + 0 := by show dtF (tbC I0) q k + (if f_dg (tbC I0 (q + k)) then 1 else 0) = _; rw [hbk, if_neg (by omega)]
          have tn : ((I 1 3) + 1).toInt = (I 1 3).toInt + 1 := by rw [i_add (by omega) (by omega), c1]
          have tl : ((l + 1)).toInt = (l).toInt + 1 := by rw [i_add (by omega) (by omega), c1]
          refine ih (k + 1) (dw_up I 1 3 ((I 1 3) + (1 : Int32))) ((l + 1)) (d) _ (by omega) (by omega) (hr.trans er) (fun a ha => ?_) (fun j h1 h2 => ?_) ?_ (by omega) (by omega) (fun i hi => ?_) (fun h => ?_)
          · rw [← hA a ha]; funext j; simp [dw_up, ha]
          · rw [← hF j h1 h2]; simp [dw_up, h1, h2]
          · show ((I 1 3) + 1).toInt = _; omega
          · by_cases e : i = k
            · rw [e]; exact hch
            · exact hall i (by omega)
          · omega
set_option maxRecDepth 8000 in
set_option maxHeartbeats 2000000 in
theorem v_takeWN {n : Nat} {I : Nat → Nat → Int32} {J : Nat → Nat → Int64} {K : dw_K} {q N : Nat} (hN : (I 1 1).toInt = N) (hN9 : N ≤ 940) (h3 : (I 1 3).toInt = q) (hq : q ≤ N)
    (hk : ∀ (k : Nat) (I' : Nat → Nat → Int32), rnF (tbC I) N (N - q) q = q + k → q + k ≤ N → ltF (tbC I) q k + dtF (tbC I) q k = k → (∀ a, a ≠ 1 → I' a = I a) → (∀ j, j ≠ 3 → j ≠ 5 → j ≠ 6 → I' 1 j = I 1 j) → (I' 1 3).toInt = (q + k : Nat) → (I' 1 5).toInt = kdF (ltF (tbC I) q k) (dtF (tbC I) q k) k → (kdF (ltF (tbC I) q k) (dtF (tbC I) q k) k = 2 → I' 1 6 = vlF (tbC I) q k) → K none (n, SH1, I', J)) : t_X9_takeWordOrNumber [.ref 1] (n, SH1, I, J) K := by
  refine q_body (Nat.le_of_ble_eq_true rfl) ?_
  refine q_ic rfl ?_
  refine q_ist rfl rfl ?_
  show dw_ok (pr_X9_takeWordOrNumber K) 2 0 0 [some (.ref 1), some (.int (0 : Int32)), none, none] [] (n, SH1, I, J)
  refine q_ic rfl ?_
  refine q_ist rfl rfl ?_
  show dw_ok (pr_X9_takeWordOrNumber K) 4 0 0 [some (.ref 1), some (.int (0 : Int32)), some (.int (0 : Int32)), none] [] (n, SH1, I, J)
  refine q_ald rfl rfl ?_
  refine q_ic rfl ?_
  refine q_puti rfl sk_1 ?_
  show dw_ok (pr_X9_takeWordOrNumber K) 9 0 0 [some (.ref 1), some (.int (0 : Int32)), some (.int (0 : Int32)), none] [] (n, SH1, (dw_up I 1 6 (0 : Int32)), J)
  refine wn_loop (I0 := I) (q := q) hN hN9 (fun k I' l d s3 hqk er hA hF h3 hl hd hv => ?_) (N - q) 0 (dw_up I 1 6 (0 : Int32)) 0 0 none (by omega) (by omega) rfl (fun a ha => ?_) (fun j h1 h2 => ?_) ?_ rfl rfl (fun i hi => absurd hi (Nat.not_lt_zero i)) (fun _ => ?_)
  rotate_left
  · funext j; simp [dw_up, ha]
  · simp [dw_up, h2]
  · exact h3
  · rfl
  have hlk : ltF (tbC I) q k + dtF (tbC I) q k = k := ltdt k (fun i hi => (rnF_in (b := tbC I) (n := N) (N - q) q (q + i) (by omega) (by omega)).2)
  refine q_ald rfl rfl ?_
  refine q_ic rfl ?_
  refine q_puti rfl sk_1 ?_
  show dw_ok (pr_X9_takeWordOrNumber K) 119 0 0 [some (.ref 1), some (.int l), some (.int d), s3] [] (n, SH1, (dw_up I' 1 5 (4 : Int32)), J)
  refine q_ild rfl rfl ?_
  refine q_if (c := 1) rfl (by decide) (fun y1 => ?_) (fun y1 => ?_)
  · have y1 : (d).toInt ≠ 0 := y1
    refine q_ild rfl rfl ?_
    refine q_if (c := 1) rfl (by decide) (fun y2 => ?_) (fun y2 => ?_)
    · have y2 : (l).toInt ≠ 0 := y2
      have ek : kdF (ltF (tbC I) q k) (dtF (tbC I) q k) k = 4 := by unfold kdF; rw [if_neg (by omega), if_neg (by omega)]
      refine q_vret rfl (hk k (dw_up I' 1 5 (4 : Int32)) er hqk hlk (fun a ha => ?_) (fun j h1 h2 h3 => ?_) ?_ ?_ ?_)
      · rw [← hA a ha]; funext j; simp [dw_up, ha]
      · rw [← hF j h1 h3]; simp [dw_up, h2]
      · exact h3
      · rw [ek]; rfl
      · rw [ek]; intro h; omega
    · have y2 : (l).toInt = 0 := y2
      refine q_ild rfl rfl ?_
      refine q_ic rfl ?_
      refine q_icmp (c := 2) rfl (by decide) (fun y3 => ?_) (fun y3 => ?_)
      · have y3 : (d).toInt < (1 : Int) := y3
        have ek : kdF (ltF (tbC I) q k) (dtF (tbC I) q k) k = 4 := by unfold kdF; rw [if_neg (by omega), if_neg (by omega)]
        refine q_vret rfl (hk k (dw_up I' 1 5 (4 : Int32)) er hqk hlk (fun a ha => ?_) (fun j h1 h2 h3 => ?_) ?_ ?_ ?_)
        · rw [← hA a ha]; funext j; simp [dw_up, ha]
        · rw [← hF j h1 h3]; simp [dw_up, h2]
        · exact h3
        · rw [ek]; rfl
        · rw [ek]; intro h; omega
      · have y3 : (1 : Int) ≤ (d).toInt := y3
        refine q_ild rfl rfl ?_
        refine q_ic rfl ?_
        refine q_icmp (c := 4) rfl (by decide) (fun y4 => ?_) (fun y4 => ?_)
        · have y4 : (3 : Int) < (d).toInt := y4
          have ek : kdF (ltF (tbC I) q k) (dtF (tbC I) q k) k = 4 := by unfold kdF; rw [if_neg (by omega), if_neg (by omega)]
          refine q_vret rfl (hk k (dw_up I' 1 5 (4 : Int32)) er hqk hlk (fun a ha => ?_) (fun j h1 h2 h3 => ?_) ?_ ?_ ?_)
          · rw [← hA a ha]; funext j; simp [dw_up, ha]
          · rw [← hF j h1 h3]; simp [dw_up, h2]
          · exact h3
          · rw [ek]; rfl
          · rw [ek]; intro h; omega
        · have y4 : (d).toInt ≤ (3 : Int) := y4
          refine q_ald rfl rfl ?_
          refine q_ic rfl ?_
          refine q_puti rfl sk_1 ?_
          show dw_ok (pr_X9_takeWordOrNumber K) 161 0 0 [some (.ref 1), some (.int l), some (.int d), s3] [] (n, SH1, (dw_up (dw_up I' 1 5 (4 : Int32)) 1 5 (2 : Int32)), J)
          have ek : kdF (ltF (tbC I) q k) (dtF (tbC I) q k) k = 2 := by unfold kdF; rw [if_neg (by omega), if_pos (by omega)]
          refine q_vret rfl (hk k (dw_up (dw_up I' 1 5 (4 : Int32)) 1 5 (2 : Int32)) er hqk hlk (fun a ha => ?_) (fun j h1 h2 h3 => ?_) ?_ ?_ ?_)
          · rw [← hA a ha]; funext j; simp [dw_up, ha]
          · rw [← hF j h1 h3]; simp [dw_up, h2]
          · exact h3
          · rw [ek]; rfl
          · rw [ek]; intro h; exact hv ⟨by omega, by omega⟩
  · have y1 : (d).toInt = 0 := y1
    refine q_ild rfl rfl ?_
    refine q_ic rfl ?_
    refine q_icmp (c := 2) rfl (by decide) (fun y5 => ?_) (fun y5 => ?_)
    · have y5 : (l).toInt < (1 : Int) := y5
      refine q_ild rfl rfl ?_
      refine q_if (c := 1) rfl (by decide) (fun y6 => ?_) (fun y6 => ?_)
      · have y6 : (l).toInt ≠ 0 := y6
        have ek : kdF (ltF (tbC I) q k) (dtF (tbC I) q k) k = 4 := by unfold kdF; rw [if_neg (by omega), if_neg (by omega)]
        refine q_vret rfl (hk k (dw_up I' 1 5 (4 : Int32)) er hqk hlk (fun a ha => ?_) (fun j h1 h2 h3 => ?_) ?_ ?_ ?_)
        · rw [← hA a ha]; funext j; simp [dw_up, ha]
        · rw [← hF j h1 h3]; simp [dw_up, h2]
        · exact h3
        · rw [ek]; rfl
        · rw [ek]; intro h; omega
      · have y6 : (l).toInt = 0 := y6
        refine q_ild rfl rfl ?_
        refine q_ic rfl ?_
        refine q_icmp (c := 2) rfl (by decide) (fun y7 => ?_) (fun y7 => ?_)
        · have y7 : (d).toInt < (1 : Int) := y7
          have ek : kdF (ltF (tbC I) q k) (dtF (tbC I) q k) k = 4 := by unfold kdF; rw [if_neg (by omega), if_neg (by omega)]
          refine q_vret rfl (hk k (dw_up I' 1 5 (4 : Int32)) er hqk hlk (fun a ha => ?_) (fun j h1 h2 h3 => ?_) ?_ ?_ ?_)
          · rw [← hA a ha]; funext j; simp [dw_up, ha]
          · rw [← hF j h1 h3]; simp [dw_up, h2]
          · exact h3
          · rw [ek]; rfl
          · rw [ek]; intro h; omega
        · have y7 : (1 : Int) ≤ (d).toInt := y7
          refine q_ild rfl rfl ?_
          refine q_ic rfl ?_
          refine q_icmp (c := 4) rfl (by decide) (fun y8 => ?_) (fun y8 => ?_)
          · have y8 : (3 : Int) < (d).toInt := y8
            have ek : kdF (ltF (tbC I) q k) (dtF (tbC I) q k) k = 4 := by unfold kdF; rw [if_neg (by omega), if_neg (by omega)]
            refine q_vret rfl (hk k (dw_up I' 1 5 (4 : Int32)) er hqk hlk (fun a ha => ?_) (fun j h1 h2 h3 => ?_) ?_ ?_ ?_)
            · rw [← hA a ha]; funext j; simp [dw_up, ha]
            · rw [← hF j h1 h3]; simp [dw_up, h2]
            · exact h3
            · rw [ek]; rfl
            · rw [ek]; intro h; omega
          · have y8 : (d).toInt ≤ (3 : Int) := y8
            refine q_ald rfl rfl ?_
            refine q_ic rfl ?_
            refine q_puti rfl sk_1 ?_
            show dw_ok (pr_X9_takeWordOrNumber K) 161 0 0 [some (.ref 1), some (.int l), some (.int d), s3] [] (n, SH1, (dw_up (dw_up I' 1 5 (4 : Int32)) 1 5 (2 : Int32)), J)
            have ek : kdF (ltF (tbC I) q k) (dtF (tbC I) q k) k = 2 := by unfold kdF; rw [if_neg (by omega), if_pos (by omega)]
            refine q_vret rfl (hk k (dw_up (dw_up I' 1 5 (4 : Int32)) 1 5 (2 : Int32)) er hqk hlk (fun a ha => ?_) (fun j h1 h2 h3 => ?_) ?_ ?_ ?_)
            · rw [← hA a ha]; funext j; simp [dw_up, ha]
            · rw [← hF j h1 h3]; simp [dw_up, h2]
            · exact h3
            · rw [ek]; rfl
            · rw [ek]; intro h; exact hv ⟨by omega, by omega⟩
    · have y5 : (1 : Int) ≤ (l).toInt := y5
      refine q_ild rfl rfl ?_
      refine q_ic rfl ?_
      refine q_icmp (c := 4) rfl (by decide) (fun y9 => ?_) (fun y9 => ?_)
      · have y9 : (12 : Int) < (l).toInt := y9
        refine q_ild rfl rfl ?_
        refine q_if (c := 1) rfl (by decide) (fun y10 => ?_) (fun y10 => ?_)
        · have y10 : (l).toInt ≠ 0 := y10
          have ek : kdF (ltF (tbC I) q k) (dtF (tbC I) q k) k = 4 := by unfold kdF; rw [if_neg (by omega), if_neg (by omega)]
          refine q_vret rfl (hk k (dw_up I' 1 5 (4 : Int32)) er hqk hlk (fun a ha => ?_) (fun j h1 h2 h3 => ?_) ?_ ?_ ?_)
          · rw [← hA a ha]; funext j; simp [dw_up, ha]
          · rw [← hF j h1 h3]; simp [dw_up, h2]
          · exact h3
          · rw [ek]; rfl
          · rw [ek]; intro h; omega
        · have y10 : (l).toInt = 0 := y10
          refine q_ild rfl rfl ?_
          refine q_ic rfl ?_
          refine q_icmp (c := 2) rfl (by decide) (fun y11 => ?_) (fun y11 => ?_)
          · have y11 : (d).toInt < (1 : Int) := y11
            have ek : kdF (ltF (tbC I) q k) (dtF (tbC I) q k) k = 4 := by unfold kdF; rw [if_neg (by omega), if_neg (by omega)]
            refine q_vret rfl (hk k (dw_up I' 1 5 (4 : Int32)) er hqk hlk (fun a ha => ?_) (fun j h1 h2 h3 => ?_) ?_ ?_ ?_)
            · rw [← hA a ha]; funext j; simp [dw_up, ha]
            · rw [← hF j h1 h3]; simp [dw_up, h2]
            · exact h3
            · rw [ek]; rfl
            · rw [ek]; intro h; omega
          · have y11 : (1 : Int) ≤ (d).toInt := y11
            refine q_ild rfl rfl ?_
            refine q_ic rfl ?_
            refine q_icmp (c := 4) rfl (by decide) (fun y12 => ?_) (fun y12 => ?_)
            · have y12 : (3 : Int) < (d).toInt := y12
              have ek : kdF (ltF (tbC I) q k) (dtF (tbC I) q k) k = 4 := by unfold kdF; rw [if_neg (by omega), if_neg (by omega)]
              refine q_vret rfl (hk k (dw_up I' 1 5 (4 : Int32)) er hqk hlk (fun a ha => ?_) (fun j h1 h2 h3 => ?_) ?_ ?_ ?_)
              · rw [← hA a ha]; funext j; simp [dw_up, ha]
              · rw [← hF j h1 h3]; simp [dw_up, h2]
              · exact h3
              · rw [ek]; rfl
              · rw [ek]; intro h; omega
            · have y12 : (d).toInt ≤ (3 : Int) := y12
              refine q_ald rfl rfl ?_
              refine q_ic rfl ?_
              refine q_puti rfl sk_1 ?_
              show dw_ok (pr_X9_takeWordOrNumber K) 161 0 0 [some (.ref 1), some (.int l), some (.int d), s3] [] (n, SH1, (dw_up (dw_up I' 1 5 (4 : Int32)) 1 5 (2 : Int32)), J)
              have ek : kdF (ltF (tbC I) q k) (dtF (tbC I) q k) k = 2 := by unfold kdF; rw [if_neg (by omega), if_pos (by omega)]
              refine q_vret rfl (hk k (dw_up (dw_up I' 1 5 (4 : Int32)) 1 5 (2 : Int32)) er hqk hlk (fun a ha => ?_) (fun j h1 h2 h3 => ?_) ?_ ?_ ?_)
              · rw [← hA a ha]; funext j; simp [dw_up, ha]
              · rw [← hF j h1 h3]; simp [dw_up, h2]
              · exact h3
              · rw [ek]; rfl
              · rw [ek]; intro h; exact hv ⟨by omega, by omega⟩
      · have y9 : (l).toInt ≤ (12 : Int) := y9
        refine q_ald rfl rfl ?_
        refine q_ic rfl ?_
        refine q_puti rfl sk_1 ?_
        show dw_ok (pr_X9_takeWordOrNumber K) 139 0 0 [some (.ref 1), some (.int l), some (.int d), s3] [] (n, SH1, (dw_up (dw_up I' 1 5 (4 : Int32)) 1 5 (1 : Int32)), J)
        refine q_goto rfl ?_
        have ek : kdF (ltF (tbC I) q k) (dtF (tbC I) q k) k = 1 := by unfold kdF; rw [if_pos (by omega)]
        refine q_vret rfl (hk k (dw_up (dw_up I' 1 5 (4 : Int32)) 1 5 (1 : Int32)) er hqk hlk (fun a ha => ?_) (fun j h1 h2 h3 => ?_) ?_ ?_ ?_)
        · rw [← hA a ha]; funext j; simp [dw_up, ha]
        · rw [← hF j h1 h3]; simp [dw_up, h2]
        · exact h3
        · rw [ek]; rfl
        · rw [ek]; intro h; omega
set_option maxRecDepth 8000 in
set_option maxHeartbeats 2000000 in
theorem sk_loop {n : Nat} {J : Nat → Nat → Int64} {K : dw_K} {bc bs : Nat} {I0 : Nat → Nat → Int32} {p0 N : Nat} (hN : (I0 1 1).toInt = N) (hN9 : N ≤ 940)
    (hk : ∀ (p : Nat) (I : Nat → Nat → Int32), p ≤ N → skF (tbC I0) N (N - p0) p0 = p → (∀ a, a ≠ 1 → I a = I0 a) → (∀ j, j ≠ 3 → I 1 j = I0 1 j) → (I 1 3).toInt = p → dw_ok (pr_X9_take K) 50 bc bs [some (.ref 1)] [] (n, SH1, I, J)) :
    ∀ (f p : Nat) (I : Nat → Nat → Int32), p ≤ N → N - p ≤ f → skF (tbC I0) N (N - p0) p0 = skF (tbC I0) N (N - p) p → (∀ a, a ≠ 1 → I a = I0 a) → (∀ j, j ≠ 3 → I 1 j = I0 1 j) → (I 1 3).toInt = p → dw_ok (pr_X9_take K) 0 bc bs [some (.ref 1)] [] (n, SH1, I, J) := by
  intro f
  induction f with
  | zero =>
    intro p I hp hf hs hA hF h3
    have h11 : I 1 1 = I0 1 1 := hF 1 (by decide)
    have h2 : I 2 = I0 2 := hA 2 (by decide)
    have hi : (I 1 3).toInt.toNat = p := by omega
    have hb : p < N → tbC I0 p = I 2 (I 1 3).toInt.toNat := fun hlt => by rw [hi, h2]; exact tbC_in (by omega)
    rw [← h11] at hN
    refine q_ald rfl rfl ?_
    refine q_geti rfl sk_1 ?_
    refine q_ald rfl rfl ?_
    refine q_geti rfl sk_1 ?_
    refine q_icmp (c := 3) rfl (by decide) (fun y1 => ?_) (fun h => absurd (show ((I 1 3)).toInt < ((I 1 1)).toInt from h) (by omega))
    have y1 : ((I 1 1)).toInt ≤ ((I 1 3)).toInt := y1
    have er : skF (tbC I0) N (N - p) p = p := by
      by_cases hlt : p < N
      · rw [show N - p = (N - p - 1) + 1 by omega]
        unfold skF
        rw [if_neg (fun h => by have hh := h.2; rw [hb hlt] at hh; omega)]
      · rw [show N - p = 0 by omega]
        rfl
    exact hk p I hp (hs.trans er) hA hF h3
  | succ f ih =>
    intro p I hp hf hs hA hF h3
    have h11 : I 1 1 = I0 1 1 := hF 1 (by decide)
    have h2 : I 2 = I0 2 := hA 2 (by decide)
    have hi : (I 1 3).toInt.toNat = p := by omega
    have hb : p < N → tbC I0 p = I 2 (I 1 3).toInt.toNat := fun hlt => by rw [hi, h2]; exact tbC_in (by omega)
    rw [← h11] at hN
    refine q_ald rfl rfl ?_
    refine q_geti rfl sk_1 ?_
    refine q_ald rfl rfl ?_
    refine q_geti rfl sk_1 ?_
    refine q_icmp (c := 3) rfl (by decide) (fun y2 => ?_) (fun y2 => ?_)
    · have y2 : ((I 1 1)).toInt ≤ ((I 1 3)).toInt := y2
      have er : skF (tbC I0) N (N - p) p = p := by
        by_cases hlt : p < N
        · rw [show N - p = (N - p - 1) + 1 by omega]
          unfold skF
          rw [if_neg (fun h => by have hh := h.2; rw [hb hlt] at hh; omega)]
        · rw [show N - p = 0 by omega]
          rfl
      exact hk p I hp (hs.trans er) hA hF h3
    · have y2 : ((I 1 3)).toInt < ((I 1 1)).toInt := y2
      refine q_ald rfl rfl ?_
      refine q_ald rfl rfl ?_
      refine q_geti rfl sk_1 ?_
      refine q_callV (as := [.int (I 1 3)]) (rest := []) rfl rfl sk_1 rfl (Nat.le_of_ble_eq_true rfl) ?_
      refine v_byteAt (by omega) (by omega) ?_
      show dw_ok (pr_X9_take K) 19 bc bs [some (.ref 1)] [.int (I 2 ((I 1 3)).toInt.toNat)] (n, SH1, I, J)
      refine q_ic rfl ?_
      refine q_icmp (c := 0) rfl (by decide) (fun y3 => ?_) (fun y3 => ?_)
      · have y3 : ((I 2 ((I 1 3)).toInt.toNat)).toInt = (32 : Int) := y3
        refine q_ald rfl rfl ?_
        refine q_dup rfl ?_
        refine q_geti rfl sk_1 ?_
        refine q_ic rfl ?_
        refine q_add rfl ?_
        refine q_puti rfl sk_1 ?_
        show dw_ok (pr_X9_take K) 47 bc bs [some (.ref 1)] [] (n, SH1, (dw_up I 1 3 ((I 1 3) + (1 : Int32))), J)
        refine q_goto rfl ?_
        have hlt : p < N := by omega
        have hbk := hb hlt
        have c1 : (1 : Int32).toInt = 1 := rfl
        have tn : ((I 1 3) + 1).toInt = (I 1 3).toInt + 1 := by rw [i_add (by omega) (by omega), c1]
        have er : skF (tbC I0) N (N - p) p = skF (tbC I0) N (N - (p + 1)) (p + 1) := by
          rw [show N - p = (N - (p + 1)) + 1 by omega]
          conv => lhs; unfold skF
          rw [if_pos ⟨hlt, by rw [hbk]; omega⟩]
        refine ih (p + 1) (dw_up I 1 3 ((I 1 3) + (1 : Int32))) (by omega) (by omega) (hs.trans er) (fun a ha => ?_) (fun j h1 => ?_) ?_
        · rw [← hA a ha]; funext j; simp [dw_up, ha]
        · rw [← hF j h1]; simp [dw_up, h1]
        · show ((I 1 3) + 1).toInt = _; omega
      · have y3 : ((I 2 ((I 1 3)).toInt.toNat)).toInt ≠ (32 : Int) := y3
        refine q_ald rfl rfl ?_
        refine q_ald rfl rfl ?_
        refine q_geti rfl sk_1 ?_
        refine q_callV (as := [.int (I 1 3)]) (rest := []) rfl rfl sk_1 rfl (Nat.le_of_ble_eq_true rfl) ?_
        refine v_byteAt (by omega) (by omega) ?_
        show dw_ok (pr_X9_take K) 32 bc bs [some (.ref 1)] [.int (I 2 ((I 1 3)).toInt.toNat)] (n, SH1, I, J)
        refine q_ic rfl ?_
        refine q_icmp (c := 1) rfl (by decide) (fun y4 => ?_) (fun y4 => ?_)
        · have y4 : ((I 2 ((I 1 3)).toInt.toNat)).toInt ≠ (10 : Int) := y4
          have er : skF (tbC I0) N (N - p) p = p := by
            by_cases hlt : p < N
            · rw [show N - p = (N - p - 1) + 1 by omega]
              unfold skF
              rw [if_neg (fun h => by have hh := h.2; rw [hb hlt] at hh; omega)]
            · rw [show N - p = 0 by omega]
              rfl
          exact hk p I hp (hs.trans er) hA hF h3
        · have y4 : ((I 2 ((I 1 3)).toInt.toNat)).toInt = (10 : Int) := y4
          refine q_ald rfl rfl ?_
          refine q_dup rfl ?_
          refine q_geti rfl sk_1 ?_
          refine q_ic rfl ?_
          refine q_add rfl ?_
          refine q_puti rfl sk_1 ?_
          show dw_ok (pr_X9_take K) 47 bc bs [some (.ref 1)] [] (n, SH1, (dw_up I 1 3 ((I 1 3) + (1 : Int32))), J)
          refine q_goto rfl ?_
          have hlt : p < N := by omega
          have hbk := hb hlt
          have c1 : (1 : Int32).toInt = 1 := rfl
          have tn : ((I 1 3) + 1).toInt = (I 1 3).toInt + 1 := by rw [i_add (by omega) (by omega), c1]
          have er : skF (tbC I0) N (N - p) p = skF (tbC I0) N (N - (p + 1)) (p + 1) := by
            rw [show N - p = (N - (p + 1)) + 1 by omega]
            conv => lhs; unfold skF
            rw [if_pos ⟨hlt, by rw [hbk]; omega⟩]
          refine ih (p + 1) (dw_up I 1 3 ((I 1 3) + (1 : Int32))) (by omega) (by omega) (hs.trans er) (fun a ha => ?_) (fun j h1 => ?_) ?_
          · rw [← hA a ha]; funext j; simp [dw_up, ha]
          · rw [← hF j h1]; simp [dw_up, h1]
          · show ((I 1 3) + 1).toInt = _; omega
set_option maxRecDepth 8000 in
set_option maxHeartbeats 2000000 in
theorem v_take {n : Nat} {I : Nat → Nat → Int32} {J : Nat → Nat → Int64} {K : dw_K} {p N m : Nat} (hN : (I 1 1).toInt = N) (hN9 : N ≤ 940) (hm : (I 1 2).toInt = m) (h3 : (I 1 3).toInt = p) (hp : p ≤ N)
    (hk : ∀ I' : Nat → Nat → Int32, (∀ a, a ≠ 1 → I' a = I a) → (∀ j, j ≠ 3 → j ≠ 4 → j ≠ 5 → j ≠ 6 → I' 1 j = I 1 j) → (I' 1 3).toInt = (tkF (tbC I) N m p).2.2.1 → (I' 1 4).toInt = (tkF (tbC I) N m p).2.1 → (I' 1 5).toInt = (tkF (tbC I) N m p).1 → ((tkF (tbC I) N m p).1 = 2 → I' 1 6 = (tkF (tbC I) N m p).2.2.2) → K none (n, SH1, I', J)) : t_X9_take [.ref 1] (n, SH1, I, J) K := by
  refine q_body (Nat.le_of_ble_eq_true rfl) ?_
  refine sk_loop (I0 := I) (p0 := p) hN hN9 (fun p1 I1 hp1 hs hA hF h31 => ?_) (N - p) p I hp (by omega) rfl (fun _ _ => rfl) (fun _ _ => rfl) h3
  have h11 : I1 1 1 = I 1 1 := hF 1 (by decide)
  have h12 : I1 1 2 = I 1 2 := hF 2 (by decide)
  have hi : (I1 1 3).toInt.toNat = p1 := by omega
  have hb1 : p1 < N → tbC I p1 = I1 2 (I1 1 3).toInt.toNat := fun hlt => by rw [hi, hA 2 (by decide)]; exact tbC_in (by omega)
  have hpp := skF_ge (b := tbC I) (n := N) (N - p) p
  rw [← h11] at hN
  rw [← h12] at hm
  refine q_ald rfl rfl ?_
  refine q_ald rfl rfl ?_
  refine q_geti rfl sk_1 ?_
  refine q_puti rfl sk_1 ?_
  show dw_ok (pr_X9_take K) 58 0 0 [some (.ref 1)] [] (n, SH1, (dw_up I1 1 4 (I1 1 3)), J)
  refine q_ald rfl rfl ?_
  refine q_geti rfl sk_1 ?_
  refine q_ald rfl rfl ?_
  refine q_geti rfl sk_1 ?_
  refine q_icmp (c := 5) rfl (by decide) (fun y1 => ?_) (fun y1 => ?_)
  · have y1 : ((I1 1 1)).toInt ≤ ((I1 1 2)).toInt := y1
    refine q_ald rfl rfl ?_
    refine q_geti rfl sk_1 ?_
    refine q_ald rfl rfl ?_
    refine q_geti rfl sk_1 ?_
    refine q_icmp (c := 2) rfl (by decide) (fun y2 => ?_) (fun y2 => ?_)
    · have y2 : ((I1 1 3)).toInt < ((I1 1 1)).toInt := y2
      refine q_ald rfl rfl ?_
      refine q_ald rfl rfl ?_
      refine q_geti rfl sk_1 ?_
      refine q_callV (as := [.int (I1 1 3)]) (rest := []) rfl rfl sk_1 rfl (Nat.le_of_ble_eq_true rfl) ?_
      refine v_byteAt (by omega) (by omega) ?_
      show dw_ok (pr_X9_take K) 131 0 0 [some (.ref 1)] [.int (I1 2 ((I1 1 3)).toInt.toNat)] (n, SH1, (dw_up I1 1 4 (I1 1 3)), J)
      refine q_ic rfl ?_
      refine q_icmp (c := 1) rfl (by decide) (fun y3 => ?_) (fun y3 => ?_)
      · have y3 : ((I1 2 ((I1 1 3)).toInt.toNat)).toInt ≠ (59 : Int) := y3
        refine q_ald rfl rfl ?_
        refine q_callV (as := []) (rest := []) rfl rfl sk_1 rfl (Nat.le_of_ble_eq_true rfl) ?_
        have eb : tbC (dw_up I1 1 4 (I1 1 3)) = tbC I := tbC_eq (hF 1 (by decide)) (hA 2 (by decide))
        have z11 : (dw_up I1 1 4 (I1 1 3)) 1 1 = I1 1 1 := (up_ne (Or.inr (by decide)))
        have z13 : (dw_up I1 1 4 (I1 1 3)) 1 3 = I1 1 3 := (up_ne (Or.inr (by decide)))
        refine v_takeWN (q := p1) (N := N) (by rw [z11]; omega) hN9 (by rw [z13]; omega) (by omega) (fun k I2 er hqk hlk hA2 hF2 h32 h52 h62 => ?_)
        rw [eb] at er hlk h52 h62
        show dw_ok (pr_X9_take K) 158 0 0 [some (.ref 1)] [] (n, SH1, I2, J)
        have e1 : (tkF (tbC I) N m p).2.1 = p1 ∧ (tkF (tbC I) N m p).2.2.1 = p1 + k ∧ (tkF (tbC I) N m p).1 = kdF (ltF (tbC I) p1 k) (dtF (tbC I) p1 k) k ∧ ((tkF (tbC I) N m p).1 = 2 → (tkF (tbC I) N m p).2.2.2 = vlF (tbC I) p1 k) := by
          unfold tkF
          rw [hs, er, show p1 + k - p1 = k by omega, if_neg (by omega), if_neg (by omega), if_neg (by rw [hb1 (by omega)]; omega)]
          unfold kdF
          by_cases g1 : dtF (tbC I) p1 k = 0 ∧ 1 ≤ k ∧ k ≤ 12
          · rw [if_pos g1, if_pos g1]; exact ⟨rfl, rfl, rfl, fun h => absurd h (nn rfl)⟩
          · rw [if_neg g1, if_neg g1]
            by_cases g2 : ltF (tbC I) p1 k = 0 ∧ 1 ≤ k ∧ k ≤ 3
            · rw [if_pos g2, if_pos g2]; exact ⟨rfl, rfl, rfl, fun _ => rfl⟩
            · rw [if_neg g2, if_neg g2]; exact ⟨rfl, rfl, rfl, fun h => absurd h (nn rfl)⟩
        obtain ⟨t1, t2, t3, t4⟩ := e1
        refine q_vret rfl (hk I2 (fun a ha => ?_) (fun j h1 h2 h4 h5 => ?_) ?_ ?_ ?_ ?_)
        · rw [hA2 a ha, ← hA a ha]; funext j; simp [dw_up, ha]
        · rw [hF2 j h1 h4 h5, ← hF j h1]; simp [dw_up, h2]
        · rw [t2]; exact h32
        · rw [t1, hF2 4 (by decide) (by decide) (by decide)]; show (I1 1 3).toInt = _; omega
        · rw [t3]; exact h52
        · intro h; rw [t4 h]; rw [t3] at h; exact h62 h
      · have y3 : ((I1 2 ((I1 1 3)).toInt.toNat)).toInt = (59 : Int) := y3
        refine q_ald rfl rfl ?_
        refine q_ald rfl rfl ?_
        refine q_geti rfl sk_1 ?_
        refine q_ic rfl ?_
        refine q_add rfl ?_
        refine q_puti rfl sk_1 ?_
        show dw_ok (pr_X9_take K) 146 0 0 [some (.ref 1)] [] (n, SH1, (dw_up (dw_up I1 1 4 (I1 1 3)) 1 3 ((I1 1 3) + (1 : Int32))), J)
        refine q_ald rfl rfl ?_
        refine q_ic rfl ?_
        refine q_puti rfl sk_1 ?_
        show dw_ok (pr_X9_take K) 151 0 0 [some (.ref 1)] [] (n, SH1, (dw_up (dw_up (dw_up I1 1 4 (I1 1 3)) 1 3 ((I1 1 3) + (1 : Int32))) 1 5 (3 : Int32)), J)
        refine q_goto rfl ?_
        have eT : tkF (tbC I) N m p = (3, p1, p1 + 1, 0) := by unfold tkF; rw [hs]; rw [if_neg (by omega), if_neg (by omega), if_pos (by rw [hb1 (by omega)]; omega)]
        refine q_vret rfl (hk (dw_up (dw_up (dw_up I1 1 4 (I1 1 3)) 1 3 ((I1 1 3) + (1 : Int32))) 1 5 (3 : Int32)) (fun a ha => ?_) (fun j h1 h2 h4 h5 => ?_) ?_ ?_ ?_ ?_)
        · rw [← hA a ha]; funext j; simp [dw_up, ha]
        · rw [← hF j h1]; simp [dw_up, h1, h2, h4]
        · rw [eT]; have c1 : (1 : Int32).toInt = 1 := rfl; show (((I1 1 3) + (1 : Int32))).toInt = ((p1 + 1 : Nat) : Int); rw [i_add (by omega) (by omega), c1]; omega
        · rw [eT]; show ((I1 1 3)).toInt = _; omega
        · rw [eT]; rfl
        · rw [eT]; intro h; exact absurd h (nn rfl)
    · have y2 : ((I1 1 1)).toInt ≤ ((I1 1 3)).toInt := y2
      refine q_ald rfl rfl ?_
      refine q_ald rfl rfl ?_
      refine q_geti rfl sk_1 ?_
      refine q_puti rfl sk_1 ?_
      show dw_ok (pr_X9_take K) 115 0 0 [some (.ref 1)] [] (n, SH1, (dw_up (dw_up I1 1 4 (I1 1 3)) 1 4 (I1 1 1)), J)
      refine q_ald rfl rfl ?_
      refine q_ic rfl ?_
      refine q_puti rfl sk_1 ?_
      show dw_ok (pr_X9_take K) 120 0 0 [some (.ref 1)] [] (n, SH1, (dw_up (dw_up (dw_up I1 1 4 (I1 1 3)) 1 4 (I1 1 1)) 1 5 (0 : Int32)), J)
      refine q_goto rfl ?_
      have eT : tkF (tbC I) N m p = (0, N, p1, 0) := by unfold tkF; rw [hs]; rw [if_neg (by omega), if_pos (by omega)]
      refine q_vret rfl (hk (dw_up (dw_up (dw_up I1 1 4 (I1 1 3)) 1 4 (I1 1 1)) 1 5 (0 : Int32)) (fun a ha => ?_) (fun j h1 h2 h4 h5 => ?_) ?_ ?_ ?_ ?_)
      · rw [← hA a ha]; funext j; simp [dw_up, ha]
      · rw [← hF j h1]; simp [dw_up, h1, h2, h4]
      · rw [eT]; show ((I1 1 3)).toInt = _; omega
      · rw [eT]; show ((I1 1 1)).toInt = _; omega
      · rw [eT]; rfl
      · rw [eT]; intro h; exact absurd h (nn rfl)
  · have y1 : ((I1 1 2)).toInt < ((I1 1 1)).toInt := y1
    refine q_ald rfl rfl ?_
    refine q_geti rfl sk_1 ?_
    refine q_ald rfl rfl ?_
    refine q_geti rfl sk_1 ?_
    refine q_icmp (c := 2) rfl (by decide) (fun y4 => ?_) (fun y4 => ?_)
    · have y4 : ((I1 1 3)).toInt < ((I1 1 2)).toInt := y4
      refine q_ald rfl rfl ?_
      refine q_geti rfl sk_1 ?_
      refine q_ald rfl rfl ?_
      refine q_geti rfl sk_1 ?_
      refine q_icmp (c := 2) rfl (by decide) (fun y5 => ?_) (fun y5 => ?_)
      · have y5 : ((I1 1 3)).toInt < ((I1 1 1)).toInt := y5
        refine q_ald rfl rfl ?_
        refine q_ald rfl rfl ?_
        refine q_geti rfl sk_1 ?_
        refine q_callV (as := [.int (I1 1 3)]) (rest := []) rfl rfl sk_1 rfl (Nat.le_of_ble_eq_true rfl) ?_
        refine v_byteAt (by omega) (by omega) ?_
        show dw_ok (pr_X9_take K) 131 0 0 [some (.ref 1)] [.int (I1 2 ((I1 1 3)).toInt.toNat)] (n, SH1, (dw_up I1 1 4 (I1 1 3)), J)
        refine q_ic rfl ?_
        refine q_icmp (c := 1) rfl (by decide) (fun y6 => ?_) (fun y6 => ?_)
        · have y6 : ((I1 2 ((I1 1 3)).toInt.toNat)).toInt ≠ (59 : Int) := y6
          refine q_ald rfl rfl ?_
          refine q_callV (as := []) (rest := []) rfl rfl sk_1 rfl (Nat.le_of_ble_eq_true rfl) ?_
          have eb : tbC (dw_up I1 1 4 (I1 1 3)) = tbC I := tbC_eq (hF 1 (by decide)) (hA 2 (by decide))
          have z11 : (dw_up I1 1 4 (I1 1 3)) 1 1 = I1 1 1 := (up_ne (Or.inr (by decide)))
          have z13 : (dw_up I1 1 4 (I1 1 3)) 1 3 = I1 1 3 := (up_ne (Or.inr (by decide)))
          refine v_takeWN (q := p1) (N := N) (by rw [z11]; omega) hN9 (by rw [z13]; omega) (by omega) (fun k I2 er hqk hlk hA2 hF2 h32 h52 h62 => ?_)
          rw [eb] at er hlk h52 h62
          show dw_ok (pr_X9_take K) 158 0 0 [some (.ref 1)] [] (n, SH1, I2, J)
          have e1 : (tkF (tbC I) N m p).2.1 = p1 ∧ (tkF (tbC I) N m p).2.2.1 = p1 + k ∧ (tkF (tbC I) N m p).1 = kdF (ltF (tbC I) p1 k) (dtF (tbC I) p1 k) k ∧ ((tkF (tbC I) N m p).1 = 2 → (tkF (tbC I) N m p).2.2.2 = vlF (tbC I) p1 k) := by
            unfold tkF
            rw [hs, er, show p1 + k - p1 = k by omega, if_neg (by omega), if_neg (by omega), if_neg (by rw [hb1 (by omega)]; omega)]
            unfold kdF
            by_cases g1 : dtF (tbC I) p1 k = 0 ∧ 1 ≤ k ∧ k ≤ 12
            · rw [if_pos g1, if_pos g1]; exact ⟨rfl, rfl, rfl, fun h => absurd h (nn rfl)⟩
            · rw [if_neg g1, if_neg g1]
              by_cases g2 : ltF (tbC I) p1 k = 0 ∧ 1 ≤ k ∧ k ≤ 3
              · rw [if_pos g2, if_pos g2]; exact ⟨rfl, rfl, rfl, fun _ => rfl⟩
              · rw [if_neg g2, if_neg g2]; exact ⟨rfl, rfl, rfl, fun h => absurd h (nn rfl)⟩
          obtain ⟨t1, t2, t3, t4⟩ := e1
          refine q_vret rfl (hk I2 (fun a ha => ?_) (fun j h1 h2 h4 h5 => ?_) ?_ ?_ ?_ ?_)
          · rw [hA2 a ha, ← hA a ha]; funext j; simp [dw_up, ha]
          · rw [hF2 j h1 h4 h5, ← hF j h1]; simp [dw_up, h2]
          · rw [t2]; exact h32
          · rw [t1, hF2 4 (by decide) (by decide) (by decide)]; show (I1 1 3).toInt = _; omega
          · rw [t3]; exact h52
          · intro h; rw [t4 h]; rw [t3] at h; exact h62 h
        · have y6 : ((I1 2 ((I1 1 3)).toInt.toNat)).toInt = (59 : Int) := y6
          refine q_ald rfl rfl ?_
          refine q_ald rfl rfl ?_
          refine q_geti rfl sk_1 ?_
          refine q_ic rfl ?_
          refine q_add rfl ?_
          refine q_puti rfl sk_1 ?_
          show dw_ok (pr_X9_take K) 146 0 0 [some (.ref 1)] [] (n, SH1, (dw_up (dw_up I1 1 4 (I1 1 3)) 1 3 ((I1 1 3) + (1 : Int32))), J)
          refine q_ald rfl rfl ?_
          refine q_ic rfl ?_
          refine q_puti rfl sk_1 ?_
          show dw_ok (pr_X9_take K) 151 0 0 [some (.ref 1)] [] (n, SH1, (dw_up (dw_up (dw_up I1 1 4 (I1 1 3)) 1 3 ((I1 1 3) + (1 : Int32))) 1 5 (3 : Int32)), J)
          refine q_goto rfl ?_
          have eT : tkF (tbC I) N m p = (3, p1, p1 + 1, 0) := by unfold tkF; rw [hs]; rw [if_neg (by omega), if_neg (by omega), if_pos (by rw [hb1 (by omega)]; omega)]
          refine q_vret rfl (hk (dw_up (dw_up (dw_up I1 1 4 (I1 1 3)) 1 3 ((I1 1 3) + (1 : Int32))) 1 5 (3 : Int32)) (fun a ha => ?_) (fun j h1 h2 h4 h5 => ?_) ?_ ?_ ?_ ?_)
          · rw [← hA a ha]; funext j; simp [dw_up, ha]
          · rw [← hF j h1]; simp [dw_up, h1, h2, h4]
          · rw [eT]; have c1 : (1 : Int32).toInt = 1 := rfl; show (((I1 1 3) + (1 : Int32))).toInt = ((p1 + 1 : Nat) : Int); rw [i_add (by omega) (by omega), c1]; omega
          · rw [eT]; show ((I1 1 3)).toInt = _; omega
          · rw [eT]; rfl
          · rw [eT]; intro h; exact absurd h (nn rfl)
      · have y5 : ((I1 1 1)).toInt ≤ ((I1 1 3)).toInt := y5
        refine q_ald rfl rfl ?_
        refine q_ald rfl rfl ?_
        refine q_geti rfl sk_1 ?_
        refine q_puti rfl sk_1 ?_
        show dw_ok (pr_X9_take K) 115 0 0 [some (.ref 1)] [] (n, SH1, (dw_up (dw_up I1 1 4 (I1 1 3)) 1 4 (I1 1 1)), J)
        refine q_ald rfl rfl ?_
        refine q_ic rfl ?_
        refine q_puti rfl sk_1 ?_
        show dw_ok (pr_X9_take K) 120 0 0 [some (.ref 1)] [] (n, SH1, (dw_up (dw_up (dw_up I1 1 4 (I1 1 3)) 1 4 (I1 1 1)) 1 5 (0 : Int32)), J)
        refine q_goto rfl ?_
        have eT : tkF (tbC I) N m p = (0, N, p1, 0) := by unfold tkF; rw [hs]; rw [if_neg (by omega), if_pos (by omega)]
        refine q_vret rfl (hk (dw_up (dw_up (dw_up I1 1 4 (I1 1 3)) 1 4 (I1 1 1)) 1 5 (0 : Int32)) (fun a ha => ?_) (fun j h1 h2 h4 h5 => ?_) ?_ ?_ ?_ ?_)
        · rw [← hA a ha]; funext j; simp [dw_up, ha]
        · rw [← hF j h1]; simp [dw_up, h1, h2, h4]
        · rw [eT]; show ((I1 1 3)).toInt = _; omega
        · rw [eT]; show ((I1 1 1)).toInt = _; omega
        · rw [eT]; rfl
        · rw [eT]; intro h; exact absurd h (nn rfl)
    · have y4 : ((I1 1 2)).toInt ≤ ((I1 1 3)).toInt := y4
      refine q_ald rfl rfl ?_
      refine q_ald rfl rfl ?_
      refine q_geti rfl sk_1 ?_
      refine q_puti rfl sk_1 ?_
      show dw_ok (pr_X9_take K) 88 0 0 [some (.ref 1)] [] (n, SH1, (dw_up (dw_up I1 1 4 (I1 1 3)) 1 4 (I1 1 2)), J)
      refine q_ald rfl rfl ?_
      refine q_ic rfl ?_
      refine q_puti rfl sk_1 ?_
      show dw_ok (pr_X9_take K) 93 0 0 [some (.ref 1)] [] (n, SH1, (dw_up (dw_up (dw_up I1 1 4 (I1 1 3)) 1 4 (I1 1 2)) 1 5 (4 : Int32)), J)
      refine q_goto rfl ?_
      have eT : tkF (tbC I) N m p = (4, m, p1, 0) := by unfold tkF; rw [hs]; rw [if_pos (by omega)]
      refine q_vret rfl (hk (dw_up (dw_up (dw_up I1 1 4 (I1 1 3)) 1 4 (I1 1 2)) 1 5 (4 : Int32)) (fun a ha => ?_) (fun j h1 h2 h4 h5 => ?_) ?_ ?_ ?_ ?_)
      · rw [← hA a ha]; funext j; simp [dw_up, ha]
      · rw [← hF j h1]; simp [dw_up, h1, h2, h4]
      · rw [eT]; show ((I1 1 3)).toInt = _; omega
      · rw [eT]; show ((I1 1 2)).toInt = _; omega
      · rw [eT]; rfl
      · rw [eT]; intro h; exact absurd h (nn rfl)
def nbF (t : fT) (lo hi : Int) : Nat := if t.1 = 2 then (if lo ≤ t.2.2.2.toInt ∧ t.2.2.2.toInt ≤ hi then 0 else 2) else 1
def stF (t : fT) (k : Nat) : Nat := if t.1 = k then 0 else 1
set_option maxRecDepth 8000 in
theorem v_takeNumber {n : Nat} {I : Nat → Nat → Int32} {J : Nat → Nat → Int64} {K : dw_K} {lo hi : Int32} {p N m : Nat} (hN : (I 1 1).toInt = N) (hN9 : N ≤ 940) (hm : (I 1 2).toInt = m) (h3 : (I 1 3).toInt = p) (hp : p ≤ N)
    (hk : ∀ (I' : Nat → Nat → Int32) (w : Int32), (∀ a, a ≠ 1 → I' a = I a) → (∀ j, j < 3 → I' 1 j = I 1 j) → (nbF (tkF (tbC I) N m p) lo.toInt hi.toInt = 0 → w = 1 ∧ (I' 1 3).toInt = (tkF (tbC I) N m p).2.2.1 ∧ (I' 1 4).toInt = (tkF (tbC I) N m p).2.1 ∧ (I' 1 5).toInt = (tkF (tbC I) N m p).1 ∧ ((tkF (tbC I) N m p).1 = 2 → I' 1 6 = (tkF (tbC I) N m p).2.2.2)) → (nbF (tkF (tbC I) N m p) lo.toInt hi.toInt ≠ 0 → w = 0 ∧ (I' 1 7).toInt = nbF (tkF (tbC I) N m p) lo.toInt hi.toInt ∧ (I' 1 8).toInt = (tkF (tbC I) N m p).2.1) → K (some (.int w)) (n, SH1, I', J)) : t_X9_takeNumber [.ref 1, .int lo, .int hi] (n, SH1, I, J) K := by
  refine q_body (Nat.le_of_ble_eq_true rfl) ?_
  refine q_ald rfl rfl ?_
  refine q_callV (as := []) (rest := []) rfl rfl sk_1 rfl (Nat.le_of_ble_eq_true rfl) ?_
  refine v_take (p := p) (m := m) hN hN9 hm h3 hp (fun I1 hA hF h13 h14 h15 h16 => ?_)
  show dw_ok (pr_X9_takeNumber K) 4 0 0 [some (.ref 1), some (.int lo), some (.int hi)] [] (n, SH1, I1, J)
  refine q_ald rfl rfl ?_
  refine q_geti rfl sk_1 ?_
  refine q_ic rfl ?_
  refine q_icmp (c := 0) rfl (by decide) (fun y1 => ?_) (fun y1 => ?_)
  · have y1 : ((I1 1 5)).toInt = (2 : Int) := y1
    refine q_ald rfl rfl ?_
    refine q_geti rfl sk_1 ?_
    refine q_ild rfl rfl ?_
    refine q_icmp (c := 2) rfl (by decide) (fun y2 => ?_) (fun y2 => ?_)
    · have y2 : ((I1 1 6)).toInt < (lo).toInt := y2
      refine q_ald rfl rfl ?_
      refine q_ic rfl ?_
      refine q_callV (as := [.int (2 : Int32)]) (rest := []) rfl rfl sk_1 rfl (Nat.le_of_ble_eq_true rfl) ?_
      refine v_fail ?_
      show dw_ok (pr_X9_takeNumber K) 39 0 0 [some (.ref 1), some (.int lo), some (.int hi)] [.int (0 : Int32)] (n, SH1, (dw_up (dw_up I1 1 7 (2 : Int32)) 1 8 (I1 1 4)), J)
      refine q_if (c := 0) rfl (by decide) (fun y3 => ?_) (fun h => absurd (show (0 : Int) ≠ 0 from h) (by decide))
      have y3 : (0 : Int) = 0 := y3
      refine q_ic rfl ?_
      have e : nbF (tkF (tbC I) N m p) lo.toInt hi.toInt = 2 := by unfold nbF; rw [if_pos (by omega), if_neg (by rw [← h16 (by omega)]; omega)]
      refine q_zret rfl (Or.inl rfl) (hk (dw_up (dw_up I1 1 7 (2 : Int32)) 1 8 (I1 1 4)) (0 : Int32) (fun a ha => ?_) (fun j j0 => ?_) (fun h => ?_) (fun h => ?_))
      · rw [← hA a ha]; funext j; simp [dw_up, ha]
      · rw [← hF j (by omega) (by omega) (by omega) (by omega)]; simp [dw_up, show j ≠ 7 by omega, show j ≠ 8 by omega]
      · rw [e] at h; exact absurd h (nn rfl)
      · rw [e]; exact ⟨rfl, rfl, h14⟩
    · have y2 : (lo).toInt ≤ ((I1 1 6)).toInt := y2
      refine q_ald rfl rfl ?_
      refine q_geti rfl sk_1 ?_
      refine q_ild rfl rfl ?_
      refine q_icmp (c := 5) rfl (by decide) (fun y4 => ?_) (fun y4 => ?_)
      · have y4 : ((I1 1 6)).toInt ≤ (hi).toInt := y4
        refine q_ic rfl ?_
        refine q_goto rfl ?_
        have e : nbF (tkF (tbC I) N m p) lo.toInt hi.toInt = 0 := by unfold nbF; rw [if_pos (by omega), if_pos (by rw [← h16 (by omega)]; omega)]
        refine q_zret rfl (Or.inr rfl) (hk I1 (1 : Int32) (fun a ha => ?_) (fun j j0 => ?_) (fun h => ?_) (fun h => ?_))
        · exact hA a ha
        · exact hF j (by omega) (by omega) (by omega) (by omega)
        · exact ⟨rfl, h13, h14, h15, h16⟩
        · exact absurd e h
      · have y4 : (hi).toInt < ((I1 1 6)).toInt := y4
        refine q_ald rfl rfl ?_
        refine q_ic rfl ?_
        refine q_callV (as := [.int (2 : Int32)]) (rest := []) rfl rfl sk_1 rfl (Nat.le_of_ble_eq_true rfl) ?_
        refine v_fail ?_
        show dw_ok (pr_X9_takeNumber K) 39 0 0 [some (.ref 1), some (.int lo), some (.int hi)] [.int (0 : Int32)] (n, SH1, (dw_up (dw_up I1 1 7 (2 : Int32)) 1 8 (I1 1 4)), J)
        refine q_if (c := 0) rfl (by decide) (fun y5 => ?_) (fun h => absurd (show (0 : Int) ≠ 0 from h) (by decide))
        have y5 : (0 : Int) = 0 := y5
        refine q_ic rfl ?_
        have e : nbF (tkF (tbC I) N m p) lo.toInt hi.toInt = 2 := by unfold nbF; rw [if_pos (by omega), if_neg (by rw [← h16 (by omega)]; omega)]
        refine q_zret rfl (Or.inl rfl) (hk (dw_up (dw_up I1 1 7 (2 : Int32)) 1 8 (I1 1 4)) (0 : Int32) (fun a ha => ?_) (fun j j0 => ?_) (fun h => ?_) (fun h => ?_))
        · rw [← hA a ha]; funext j; simp [dw_up, ha]
        · rw [← hF j (by omega) (by omega) (by omega) (by omega)]; simp [dw_up, show j ≠ 7 by omega, show j ≠ 8 by omega]
        · rw [e] at h; exact absurd h (nn rfl)
        · rw [e]; exact ⟨rfl, rfl, h14⟩
  · have y1 : ((I1 1 5)).toInt ≠ (2 : Int) := y1
    refine q_ald rfl rfl ?_
    refine q_ic rfl ?_
    refine q_callV (as := [.int (1 : Int32)]) (rest := []) rfl rfl sk_1 rfl (Nat.le_of_ble_eq_true rfl) ?_
    refine v_fail ?_
    show dw_ok (pr_X9_takeNumber K) 17 0 0 [some (.ref 1), some (.int lo), some (.int hi)] [.int (0 : Int32)] (n, SH1, (dw_up (dw_up I1 1 7 (1 : Int32)) 1 8 (I1 1 4)), J)
    have e : nbF (tkF (tbC I) N m p) lo.toInt hi.toInt = 1 := by unfold nbF; rw [if_neg (by omega)]
    refine q_zret rfl (Or.inl rfl) (hk (dw_up (dw_up I1 1 7 (1 : Int32)) 1 8 (I1 1 4)) (0 : Int32) (fun a ha => ?_) (fun j j0 => ?_) (fun h => ?_) (fun h => ?_))
    · rw [← hA a ha]; funext j; simp [dw_up, ha]
    · rw [← hF j (by omega) (by omega) (by omega) (by omega)]; simp [dw_up, show j ≠ 7 by omega, show j ≠ 8 by omega]
    · rw [e] at h; exact absurd h (nn rfl)
    · rw [e]; exact ⟨rfl, rfl, h14⟩
set_option maxRecDepth 8000 in
theorem v_takeStop {n : Nat} {I : Nat → Nat → Int32} {J : Nat → Nat → Int64} {K : dw_K} {p N m : Nat} (hN : (I 1 1).toInt = N) (hN9 : N ≤ 940) (hm : (I 1 2).toInt = m) (h3 : (I 1 3).toInt = p) (hp : p ≤ N)
    (hk : ∀ (I' : Nat → Nat → Int32) (w : Int32), (∀ a, a ≠ 1 → I' a = I a) → (∀ j, j < 3 → I' 1 j = I 1 j) → (stF (tkF (tbC I) N m p) 3 = 0 → w = 1 ∧ (I' 1 3).toInt = (tkF (tbC I) N m p).2.2.1 ∧ (I' 1 4).toInt = (tkF (tbC I) N m p).2.1 ∧ (I' 1 5).toInt = (tkF (tbC I) N m p).1 ∧ ((tkF (tbC I) N m p).1 = 2 → I' 1 6 = (tkF (tbC I) N m p).2.2.2)) → (stF (tkF (tbC I) N m p) 3 ≠ 0 → w = 0 ∧ (I' 1 7).toInt = stF (tkF (tbC I) N m p) 3 ∧ (I' 1 8).toInt = (tkF (tbC I) N m p).2.1) → K (some (.int w)) (n, SH1, I', J)) : t_X9_takeStop [.ref 1] (n, SH1, I, J) K := by
  refine q_body (Nat.le_of_ble_eq_true rfl) ?_
  refine q_ald rfl rfl ?_
  refine q_callV (as := []) (rest := []) rfl rfl sk_1 rfl (Nat.le_of_ble_eq_true rfl) ?_
  refine v_take (p := p) (m := m) hN hN9 hm h3 hp (fun I1 hA hF h13 h14 h15 h16 => ?_)
  show dw_ok (pr_X9_takeStop K) 4 0 0 [some (.ref 1)] [] (n, SH1, I1, J)
  refine q_ald rfl rfl ?_
  refine q_geti rfl sk_1 ?_
  refine q_ic rfl ?_
  refine q_icmp (c := 0) rfl (by decide) (fun y1 => ?_) (fun y1 => ?_)
  · have y1 : ((I1 1 5)).toInt = (3 : Int) := y1
    refine q_ic rfl ?_
    refine q_goto rfl ?_
    have e : stF (tkF (tbC I) N m p) 3 = 0 := by unfold stF; rw [if_pos (by omega)]
    refine q_zret rfl (Or.inr rfl) (hk I1 (1 : Int32) (fun a ha => ?_) (fun j j0 => ?_) (fun h => ?_) (fun h => ?_))
    · exact hA a ha
    · exact hF j (by omega) (by omega) (by omega) (by omega)
    · exact ⟨rfl, h13, h14, h15, h16⟩
    · exact absurd e h
  · have y1 : ((I1 1 5)).toInt ≠ (3 : Int) := y1
    refine q_ald rfl rfl ?_
    refine q_ic rfl ?_
    refine q_callV (as := [.int (1 : Int32)]) (rest := []) rfl rfl sk_1 rfl (Nat.le_of_ble_eq_true rfl) ?_
    refine v_fail ?_
    show dw_ok (pr_X9_takeStop K) 17 0 0 [some (.ref 1)] [.int (0 : Int32)] (n, SH1, (dw_up (dw_up I1 1 7 (1 : Int32)) 1 8 (I1 1 4)), J)
    refine q_if (c := 0) rfl (by decide) (fun y2 => ?_) (fun h => absurd (show (0 : Int) ≠ 0 from h) (by decide))
    have y2 : (0 : Int) = 0 := y2
    refine q_ic rfl ?_
    have e : stF (tkF (tbC I) N m p) 3 = 1 := by unfold stF; rw [if_neg (by omega)]
    refine q_zret rfl (Or.inl rfl) (hk (dw_up (dw_up I1 1 7 (1 : Int32)) 1 8 (I1 1 4)) (0 : Int32) (fun a ha => ?_) (fun j j0 => ?_) (fun h => ?_) (fun h => ?_))
    · rw [← hA a ha]; funext j; simp [dw_up, ha]
    · rw [← hF j (by omega) (by omega) (by omega) (by omega)]; simp [dw_up, show j ≠ 7 by omega, show j ≠ 8 by omega]
    · rw [e] at h; exact absurd h (nn rfl)
    · rw [e]; exact ⟨rfl, rfl, h14⟩
set_option maxRecDepth 8000 in
theorem v_takeWord {n : Nat} {I : Nat → Nat → Int32} {J : Nat → Nat → Int64} {K : dw_K} {p N m : Nat} (hN : (I 1 1).toInt = N) (hN9 : N ≤ 940) (hm : (I 1 2).toInt = m) (h3 : (I 1 3).toInt = p) (hp : p ≤ N)
    (hk : ∀ (I' : Nat → Nat → Int32) (w : Int32), (∀ a, a ≠ 1 → I' a = I a) → (∀ j, j < 3 → I' 1 j = I 1 j) → (stF (tkF (tbC I) N m p) 1 = 0 → w = 1 ∧ (I' 1 3).toInt = (tkF (tbC I) N m p).2.2.1 ∧ (I' 1 4).toInt = (tkF (tbC I) N m p).2.1 ∧ (I' 1 5).toInt = (tkF (tbC I) N m p).1 ∧ ((tkF (tbC I) N m p).1 = 2 → I' 1 6 = (tkF (tbC I) N m p).2.2.2)) → (stF (tkF (tbC I) N m p) 1 ≠ 0 → w = 0 ∧ (I' 1 7).toInt = stF (tkF (tbC I) N m p) 1 ∧ (I' 1 8).toInt = (tkF (tbC I) N m p).2.1) → K (some (.int w)) (n, SH1, I', J)) : t_X9_takeWord [.ref 1] (n, SH1, I, J) K := by
  refine q_body (Nat.le_of_ble_eq_true rfl) ?_
  refine q_ald rfl rfl ?_
  refine q_callV (as := []) (rest := []) rfl rfl sk_1 rfl (Nat.le_of_ble_eq_true rfl) ?_
  refine v_take (p := p) (m := m) hN hN9 hm h3 hp (fun I1 hA hF h13 h14 h15 h16 => ?_)
  show dw_ok (pr_X9_takeWord K) 4 0 0 [some (.ref 1)] [] (n, SH1, I1, J)
  refine q_ald rfl rfl ?_
  refine q_geti rfl sk_1 ?_
  refine q_ic rfl ?_
  refine q_icmp (c := 0) rfl (by decide) (fun y1 => ?_) (fun y1 => ?_)
  · have y1 : ((I1 1 5)).toInt = (1 : Int) := y1
    refine q_ic rfl ?_
    refine q_goto rfl ?_
    have e : stF (tkF (tbC I) N m p) 1 = 0 := by unfold stF; rw [if_pos (by omega)]
    refine q_zret rfl (Or.inr rfl) (hk I1 (1 : Int32) (fun a ha => ?_) (fun j j0 => ?_) (fun h => ?_) (fun h => ?_))
    · exact hA a ha
    · exact hF j (by omega) (by omega) (by omega) (by omega)
    · exact ⟨rfl, h13, h14, h15, h16⟩
    · exact absurd e h
  · have y1 : ((I1 1 5)).toInt ≠ (1 : Int) := y1
    refine q_ald rfl rfl ?_
    refine q_ic rfl ?_
    refine q_callV (as := [.int (1 : Int32)]) (rest := []) rfl rfl sk_1 rfl (Nat.le_of_ble_eq_true rfl) ?_
    refine v_fail ?_
    show dw_ok (pr_X9_takeWord K) 17 0 0 [some (.ref 1)] [.int (0 : Int32)] (n, SH1, (dw_up (dw_up I1 1 7 (1 : Int32)) 1 8 (I1 1 4)), J)
    refine q_if (c := 0) rfl (by decide) (fun y2 => ?_) (fun h => absurd (show (0 : Int) ≠ 0 from h) (by decide))
    have y2 : (0 : Int) = 0 := y2
    refine q_ic rfl ?_
    have e : stF (tkF (tbC I) N m p) 1 = 1 := by unfold stF; rw [if_neg (by omega)]
    refine q_zret rfl (Or.inl rfl) (hk (dw_up (dw_up I1 1 7 (1 : Int32)) 1 8 (I1 1 4)) (0 : Int32) (fun a ha => ?_) (fun j j0 => ?_) (fun h => ?_) (fun h => ?_))
    · rw [← hA a ha]; funext j; simp [dw_up, ha]
    · rw [← hF j (by omega) (by omega) (by omega) (by omega)]; simp [dw_up, show j ≠ 7 by omega, show j ≠ 8 by omega]
    · rw [e] at h; exact absurd h (nn rfl)
    · rw [e]; exact ⟨rfl, rfl, h14⟩
end
