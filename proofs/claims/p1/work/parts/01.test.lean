example : goodWord (.native ⟨"A","b","c"⟩) = true := by decide
example : goodWord (.static ⟨"A","b","c"⟩) = true := by decide
example : goodWord (.selects "A" ⟨"A","b","c"⟩ ⟨"A","b","c"⟩) = true := by decide
example : goodWord (.code ⟨"A","b","c"⟩ ⟨#[]⟩ 1 none) = true := by decide
example : goodWord (.codeWith ⟨"A","b","c"⟩ ⟨#[]⟩ 1 none []) = true := by decide
example : goodWord (.codeSync ⟨"A","b","c"⟩ ⟨#[]⟩ 1 none) = true := by decide
example : goodWord (.superclass "A" "B") = true := by decide
example : goodWord (.soleField "A" "B") = true := by decide
example : goodWord (.initialized "A") = true := by decide
example : goodWord (.instantiable "A" 3) = true := by decide
example : goodWord (.classLink "A" 3 "B") = true := by decide
example : goodWord (.privateMethod ⟨"A","b","c"⟩) = true := by decide
example : goodWord (.sameMethod "A" "B" "C" "D") = true := by decide
example : goodWord (.laysStatic "A" "B" "C" "D") = true := by decide
example : goodWord (.laysFinal "A" "B" "C" "D") = true := by decide
theorem i_vc : Claimed_1_1 ∧ Claimed_1_2 := sorry
