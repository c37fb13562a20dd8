section
variable {F r : Nat} {M : zMi} {A : Pg}
theorem dSail1_n {s k : Nat} (h1 : k ≠ 59 + 8 * s + 5) (h2 : k ≠ 59 + 8 * s + 6) : dSail1 s A k = A k := by
  unfold dSail1; split
  · split
    · split <;> simp (disch := omega) only [pU_n]
    · simp (disch := omega) only [pU_n]
  · rfl
end
