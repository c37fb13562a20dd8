section
variable {F x a b o K len z : Nat} {M N : zMi} {X : zMl} {xs : Nat → Int32} {A B C E Y P T : Pg}
theorem zmax_d {t k e : Nat} (h1 : t + k < 1000000000) (h2 : 0 < t + k) (h3 : e ≤ 999) : zmax 0 ((nI (t + k) - 1) - nI e) = nI (t + k - 1 - e) := by
  obtain ⟨m, hm⟩ : ∃ m, t + k = m + 1 := ⟨t + k - 1, by omega⟩
  rw [hm, nI_pred, Nat.add_sub_cancel]
  unfold zmax
  by_cases c : e ≤ m
  · rw [pk_sub c]
    by_cases c0 : m - e = 0
    · rw [c0]; rfl
    · rw [if_pos (show 0 < nI (m - e) from nI_lt (a := 0) (by omega) (by omega))]
  · have := pk_sneg (a := m) (b := e) (by omega) (by omega)
    rw [if_neg (show ¬ 0 < nI m - nI e from fun y => by grind), show m - e = 0 from by omega]
    rfl
end
