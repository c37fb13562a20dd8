section
variable {F x a b o K len : Nat} {M N M' : zMi} {X : zMl} {xs : Nat → Int32} {A : Pg}
theorem c_load52 (hF : 101 ≤ F) : f_X10_load_52 F x F 0 M = some (.inr (M (x + 3) 5), wI (wI M (x + 342) 1 0) (x + 364) 1 0) := by
  obtain ⟨m, hm⟩ : ∃ m, F = m + 3 := ⟨F - 3, by omega⟩
  have hh : ∀ F', F' = F → f_X10_load_52 F x F' (nI 0) M = some (.inr (M (x + 3) 5), wI (wI M (x + 342) 1 0) (x + 364) 1 0) := by
    intro F' hF'
    rw [hF', show f_X10_load_52 F x F = f_X10_load_52 F x (m + 3) from by rw [← hm]]
    rw [f_X10_load_52, if_pos (show nI 0 < 2 by decide), inbN (by decide) (by decide), grd_t, bnd_e, bnd_e, ad1, f_X10_load_52, if_pos (show nI (0 + 1) < 2 by decide), inbN (by decide) (by decide), grd_t, bnd_e, bnd_e, ad1, f_X10_load_52, if_neg (show ¬ nI (0 + 1 + 1) < 2 by decide), ixN (by decide), ixN (by decide), wI_ne (by omega), wI_ne (by omega)]
  exact hh F rfl
end
