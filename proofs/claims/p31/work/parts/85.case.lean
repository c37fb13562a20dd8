section
variable {F x b o K len : Nat} {M N : zMi} {X : zMl} {xs : Nat → Int32}
theorem c_rr {p lo hi : Int32} : f_X10_requireRange F p lo hi M = some (if lo ≤ p ∧ p ≤ hi then .inr () else .inl 1) := by
  unfold f_X10_requireRange
  by_cases h1 : p < lo
  · rw [if_pos h1, if_neg (by grind)]
  · rw [if_neg h1]
    by_cases h2 : hi < p
    · rw [if_pos h2, if_neg (by grind)]
    · rw [if_neg h2, if_pos (by grind)]
end
