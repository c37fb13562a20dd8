section
variable {F r : Nat} {M : zMi} {A : Pg}
def wFl (A : Pg) : Prop := (A 5 = 1 ∨ A 5 = 2 ∨ A 5 = 3 ∨ A 5 = 4) ∧ ∀ s, s < 4 → ¬ nI s < A 5 → ∀ k, k < 8 → A (59 + 8 * s + k) = 0
theorem dSail1_z {s : Nat} (h : A (59 + 8 * s + 5) = 0) : dSail1 s A = A := by unfold dSail1; simp [h]
theorem wFl_a {A : Pg} (h : wFl A) {s k : Nat} (hs : s < 4) (h5 : ¬ nI s < A 5) (hk : k < 8) : A (59 + 8 * s + k) = 0 := h.2 s hs h5 k hk
end
