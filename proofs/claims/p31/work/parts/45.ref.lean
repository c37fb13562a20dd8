section
variable {F r : Nat} {M : zMi} {A : Pg}
theorem exN {x : Int32} {n : Nat} (h0 : 0 ≤ x) (h : x ≤ nI n) (hn : n < 2147483648) : ∃ j : Nat, j ≤ n ∧ x = nI j := by
  obtain ⟨j, hj, rfl⟩ := nI_of (x := x) (by grind)
  exact ⟨j, (nI_leI hj hn).mp h, rfl⟩
def wTm (A : Pg) : Prop := (A 0 = 1 ∨ A 0 = 2 ∨ A 0 = 3) ∧ ∀ t, t < 3 → (A (13 + t) = 0 ∨ A (13 + t) = 1 ∨ A (13 + t) = 2) ∧ (¬ nI t < A 0 → A (13 + t) = 0)
theorem nd_N {z u l : Nat} (hu : u ≤ 99) (hl : l ≤ 9) (h : A (23 + 4 * z + 3) = nI l) : dNeed A z (nI u) = nI (u + (u * l + 99) / 100) := by
  have : u * l ≤ 99 * 9 := Nat.mul_le_mul hu hl
  unfold dNeed
  rw [h, nI_mul, show (99 : Int32) = nI 99 from rfl, nI_add, show (100 : Int32) = nI 100 from rfl, pk_div (by omega) (by omega) (by omega), nI_add]
theorem mo_a {v l c : Nat} : v + (v * l + 99) / 100 ≤ c ↔ v ≤ 100 * c / (100 + l) := by
  rw [Nat.le_div_iff_mul_le (by omega), Nat.mul_add]
  generalize v * l = p
  omega
theorem zminN {a b : Nat} (ha : a < 2147483648) (hb : b < 2147483648) : zmin (nI a) (nI b) = nI (min a b) := by
  unfold zmin
  by_cases h : b < a
  · rw [if_pos ((nI_ltI hb ha).mpr h), Nat.min_eq_right (by omega)]
  · rw [if_neg (fun x => h ((nI_ltI hb ha).mp x)), Nat.min_eq_left (by omega)]
theorem dMost_N {s z u l c : Nat} (hu : u ≤ 99) (hl : l ≤ 9) (hc : c ≤ 999) (h3 : A (23 + 4 * z + 3) = nI l) (h4 : A (59 + 8 * s + 4) = nI c) : dMost A s z (nI u) = nI (min u (100 * c / (100 + l))) := by
  unfold dMost
  have hq : 100 * c / (100 + l) ≤ 100 * c := Nat.div_le_self _ _
  rw [h3, h4, show (100 : Int32) = nI 100 from rfl, nI_mul, nI_add, pk_div (by omega) (by omega) (by omega), zminN (by omega) (by omega)]
end
