theorem dw_b8 {x : Int32} : x.toInt8.toInt32.toInt8.toInt32 = x.toInt8.toInt32 := by
  rw [Int8.toInt8_toInt32]
theorem dw_rng2 (x : Int32) : x = 0 ∨ x = 1 ∨ (x < 0 ∧ ¬ 0 ≤ x) ∨ (0 ≤ x ∧ ¬ x < 0 ∧ 1 < x ∧ 2 ≤ x ∧ ¬ x ≤ 1 ∧ ¬ x < 2 ∧ (x.toInt < 0 ∨ 1 < x.toInt)) := by
  have e : ∀ k : Int, 0 ≤ k → k < 100 → x.toInt = k → x = Int32.ofInt k := fun k h1 h2 h => by rw [← h, Int32.ofInt_toInt]
  simp only [Int32.lt_iff_toInt_lt, Int32.le_iff_toInt_le]
  rw [show (0 : Int32).toInt = 0 from rfl, show (1 : Int32).toInt = 1 from rfl, show (2 : Int32).toInt = 2 from rfl]
  by_cases h1 : x.toInt < 0
  · exact Or.inr (Or.inr (Or.inl ⟨h1, by omega⟩))
  · by_cases h2 : 1 < x.toInt
    · exact Or.inr (Or.inr (Or.inr (⟨by omega, h1, h2, by omega, by omega, by omega, Or.inr h2⟩)))
    · have h3 : x.toInt = 0 ∨ x.toInt = 1 := by omega
      rcases h3 with h | h
      · exact Or.inl (e 0 (by omega) (by omega) h)
      · exact Or.inr (Or.inl (e 1 (by omega) (by omega) h))
theorem dw_rng6 (x : Int32) : x = 0 ∨ x = 1 ∨ x = 2 ∨ x = 3 ∨ x = 4 ∨ x = 5 ∨ (x < 0 ∧ ¬ 0 ≤ x) ∨ (0 ≤ x ∧ ¬ x < 0 ∧ 5 < x ∧ 6 ≤ x ∧ ¬ x ≤ 5 ∧ ¬ x < 6 ∧ (x.toInt < 0 ∨ 5 < x.toInt)) := by
  have e : ∀ k : Int, 0 ≤ k → k < 100 → x.toInt = k → x = Int32.ofInt k := fun k h1 h2 h => by rw [← h, Int32.ofInt_toInt]
  simp only [Int32.lt_iff_toInt_lt, Int32.le_iff_toInt_le]
  rw [show (0 : Int32).toInt = 0 from rfl, show (5 : Int32).toInt = 5 from rfl, show (6 : Int32).toInt = 6 from rfl]
  by_cases h1 : x.toInt < 0
  · exact Or.inr (Or.inr (Or.inr (Or.inr (Or.inr (Or.inr (Or.inl ⟨h1, by omega⟩))))))
  · by_cases h2 : 5 < x.toInt
    · exact Or.inr (Or.inr (Or.inr (Or.inr (Or.inr (Or.inr (Or.inr (⟨by omega, h1, h2, by omega, by omega, by omega, Or.inr h2⟩)))))))
    · have h3 : x.toInt = 0 ∨ x.toInt = 1 ∨ x.toInt = 2 ∨ x.toInt = 3 ∨ x.toInt = 4 ∨ x.toInt = 5 := by omega
      rcases h3 with h | h | h | h | h | h
      · exact Or.inl (e 0 (by omega) (by omega) h)
      · exact Or.inr (Or.inl (e 1 (by omega) (by omega) h))
      · exact Or.inr (Or.inr (Or.inl (e 2 (by omega) (by omega) h)))
      · exact Or.inr (Or.inr (Or.inr (Or.inl (e 3 (by omega) (by omega) h))))
      · exact Or.inr (Or.inr (Or.inr (Or.inr (Or.inl (e 4 (by omega) (by omega) h)))))
      · exact Or.inr (Or.inr (Or.inr (Or.inr (Or.inr (Or.inl (e 5 (by omega) (by omega) h))))))
theorem dw_rng8 (x : Int32) : x = 0 ∨ x = 1 ∨ x = 2 ∨ x = 3 ∨ x = 4 ∨ x = 5 ∨ x = 6 ∨ x = 7 ∨ (x < 0 ∧ ¬ 0 ≤ x) ∨ (0 ≤ x ∧ ¬ x < 0 ∧ 7 < x ∧ 8 ≤ x ∧ ¬ x ≤ 7 ∧ ¬ x < 8 ∧ (x.toInt < 0 ∨ 7 < x.toInt)) := by
  have e : ∀ k : Int, 0 ≤ k → k < 100 → x.toInt = k → x = Int32.ofInt k := fun k h1 h2 h => by rw [← h, Int32.ofInt_toInt]
  simp only [Int32.lt_iff_toInt_lt, Int32.le_iff_toInt_le]
  rw [show (0 : Int32).toInt = 0 from rfl, show (7 : Int32).toInt = 7 from rfl, show (8 : Int32).toInt = 8 from rfl]
  by_cases h1 : x.toInt < 0
  · exact Or.inr (Or.inr (Or.inr (Or.inr (Or.inr (Or.inr (Or.inr (Or.inr (Or.inl ⟨h1, by omega⟩))))))))
  · by_cases h2 : 7 < x.toInt
    · exact Or.inr (Or.inr (Or.inr (Or.inr (Or.inr (Or.inr (Or.inr (Or.inr (Or.inr (⟨by omega, h1, h2, by omega, by omega, by omega, Or.inr h2⟩)))))))))
    · have h3 : x.toInt = 0 ∨ x.toInt = 1 ∨ x.toInt = 2 ∨ x.toInt = 3 ∨ x.toInt = 4 ∨ x.toInt = 5 ∨ x.toInt = 6 ∨ x.toInt = 7 := by omega
      rcases h3 with h | h | h | h | h | h | h | h
      · exact Or.inl (e 0 (by omega) (by omega) h)
      · exact Or.inr (Or.inl (e 1 (by omega) (by omega) h))
      · exact Or.inr (Or.inr (Or.inl (e 2 (by omega) (by omega) h)))
      · exact Or.inr (Or.inr (Or.inr (Or.inl (e 3 (by omega) (by omega) h))))
      · exact Or.inr (Or.inr (Or.inr (Or.inr (Or.inl (e 4 (by omega) (by omega) h)))))
      · exact Or.inr (Or.inr (Or.inr (Or.inr (Or.inr (Or.inl (e 5 (by omega) (by omega) h))))))
      · exact Or.inr (Or.inr (Or.inr (Or.inr (Or.inr (Or.inr (Or.inl (e 6 (by omega) (by omega) h)))))))
      · exact Or.inr (Or.inr (Or.inr (Or.inr (Or.inr (Or.inr (Or.inr (Or.inl (e 7 (by omega) (by omega) h))))))))
