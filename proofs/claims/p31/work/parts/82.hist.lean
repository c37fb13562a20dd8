section
variable {F h b K : Nat} {M N : zMi} {A : Pg}
theorem nI_mono {k k' : Nat} (h : k ≤ k') (hk : k' < 2147483648) : nI k ≤ nI k' := nI_le h hk
theorem WF_mono {K' : Nat} (hA : WF K A) (hK : K ≤ K') (h2 : K' < 2000000000) : WF K' A := by
  obtain ⟨g1, g2, g3, g4, g5, g6, g7, g8⟩ := hA
  refine ⟨g1, g2, ?_, g4, g5, g6, g7, g8⟩
  obtain ⟨q1, q2, q3, q4⟩ := g3
  have := nI_mono hK (by omega)
  exact ⟨q1, q2, ⟨q3.1, by grind⟩, q4⟩
end
