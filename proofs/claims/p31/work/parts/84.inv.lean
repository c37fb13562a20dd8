section
variable {F x b o K : Nat} {M N : zMi} {X : zMl}
theorem lg_cmp_s {y : Int64} : lg_cmp y y = 0 := by
  unfold lg_cmp
  rw [if_neg (by simp), if_pos rfl]
end
