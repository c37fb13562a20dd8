section
variable {F x b o K len : Nat} {M N : zMi} {X : zMl} {xs : Nat → Int32}
theorem wZ_N {A : Pg} (hA : WF K A) : ∃ n, n ≤ 9 ∧ 0 < n ∧ A 4 = nI n := by
  have q4 := hA.2.2.1.2.2.2.1
  obtain ⟨n, h1, h2⟩ := exN (n := 9) (x := A 4) (by grind) q4.2 (by decide)
  refine ⟨n, h1, ?_, h2⟩
  apply Nat.pos_of_ne_zero
  rintro rfl
  rw [nI_0] at h2
  grind
theorem m_isZone {r : Nat} {p : Int32} : f_X11_isZone F r p M = some (if 0 ≤ p ∧ p ≤ M r 4 - 1 then 1 else 0) := by
  unfold f_X11_isZone
  rw [show (0 : Int64) = (0 : Int32).toInt64 from rfl, m_in3, cal_s]
  split <;> rfl
theorem m_isShip {r : Nat} {p : Int32} : f_X11_isShip F r p M = some (if 0 ≤ p ∧ p ≤ M r 5 - 1 then 1 else 0) := by
  unfold f_X11_isShip
  rw [show (0 : Int64) = (0 : Int32).toInt64 from rfl, m_in3, cal_s]
  split <;> rfl
end
