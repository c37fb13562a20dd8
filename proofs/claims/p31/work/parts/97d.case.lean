section
variable {F x a b o K len : Nat} {M N : zMi} {X : zMl} {xs : Nat → Int32} {A : Pg}
theorem c_wlL {p0 : Int64} {j : Nat} : ∀ {i v fu : Nat}, v < 2 ^ 63 → i + j < 1000000 → j < fu → f_X2_withoutLast_5 F p0 (nI (i + j)) fu (lN v) (nI i) M = some (lN (v / 100000 ^ j)) := by
  induction j with
  | zero =>
    intro i v fu hv hij hf
    obtain ⟨n, rfl⟩ : ∃ n, fu = n + 1 := ⟨fu - 1, by omega⟩
    rw [f_X2_withoutLast_5, if_neg (nI_nlt (a := i) (b := i + 0) (by omega) (by omega))]
    simp
  | succ j ih =>
    intro i v fu hv hij hf
    obtain ⟨n, rfl⟩ : ∃ n, fu = n + 1 := ⟨fu - 1, by omega⟩
    rw [f_X2_withoutLast_5, if_pos (nI_lt (a := i) (b := i + (j + 1)) (by omega) (by omega)), show (100000 : Int64) = lN 100000 from rfl, pk_lDiv hv (by decide) (by decide), bnd_e, ad1, show i + (j + 1) = (i + 1) + j from by omega, ih (i := i + 1) (v := v / 100000) (fu := n) (Nat.lt_of_le_of_lt (Nat.div_le_self _ _) hv) (by omega) (by omega), Nat.div_div_eq_div_mul, Nat.pow_succ, Nat.mul_comm 100000]
theorem c_wl {s j : Nat} (hs : s < 2 ^ 63) (hj : j < 100) (hF : 101 ≤ F) : f_X2_withoutLast F (lN s) (nI j) M = some (lN (s / 100000 ^ j)) := by
  have := c_wlL (F := F) (M := M) (p0 := lN s) (j := j) (i := 0) (v := s) (fu := F) hs (by omega) (by omega)
  rw [Nat.zero_add] at this
  exact this
theorem pw5 {j : Nat} (hj : j ≤ 3) : 0 < 100000 ^ j ∧ 100000 ^ j < 2 ^ 60 := by
  have : j = 0 ∨ j = 1 ∨ j = 2 ∨ j = 3 := by omega
  rcases this with rfl | rfl | rfl | rfl <;> decide
end
