section
variable {F x a b o K len : Nat} {M N : zMi} {X : zMl} {xs : Nat → Int32} {A : Pg}
theorem c_exZ {p : Int32} (h : RC M a A) (hA : WF K A) : f_X10_existingZone F a p M = some (if 0 ≤ p ∧ p ≤ A 4 - 1 then .inr (a + 8 + ix p) else .inl 3) := by
  have q4 := hA.2.2.1.2.2.2.1
  unfold f_X10_existingZone
  by_cases c : 0 ≤ p ∧ p ≤ A 4 - 1
  · obtain ⟨z, hz, rfl⟩ := exN (n := 8) c.1 (by show p ≤ 8; grind) (by decide)
    rw [if_pos c, c_zoneS h (by omega) (by grind), cal_s, zo_s, ixN (by omega)]
  · rw [if_neg c, c_zoneN h (by grind), cal_s, zo_n]
theorem c_exS {p : Int32} (h : RC M (x + 3) A) (hA : WF K A) : f_X10_existingShip F x p M = some (if 0 ≤ p ∧ p ≤ A 5 - 1 then .inr (x + 3 + 17 + ix p) else .inl 3) := by
  have q5 : 1 ≤ A 5 ∧ A 5 ≤ 4 := by rcases hA.1.1 with q | q | q | q <;> rw [q] <;> decide
  unfold f_X10_existingShip
  by_cases c : 0 ≤ p ∧ p ≤ A 5 - 1
  · obtain ⟨s, hs, rfl⟩ := exN (n := 3) c.1 (by show p ≤ 3; grind) (by decide)
    rw [if_pos c, c_shipS h hA.1 (by omega) (by grind), cal_s, zo_s, ixN (by omega)]
  · rw [if_neg c, c_shipN h (by grind), cal_s, zo_n]
end
