section
variable {F x b o K len : Nat} {M N : zMi} {X : zMl} {xs : Nat → Int32}
theorem wZ_N {A : Pg} (hA : WF K A) : ∃ n, n ≤ 9 ∧ 0 < n ∧ A 4 = nI n := by
  have q4 := hA.2.2.1.2.2.2.1
  obtain ⟨n, h1, h2⟩ := exN (n := 9) (x := A 4) (by grind) q4.2 (by decide)
  refine ⟨n, h1, ?_, h2⟩
  apply Nat.pos_of_ne_zero
  rintro rfl
  rw [nI_0] at h2
  grind
end
