section
variable {F r : Nat} {M : zMi} {A : Pg}
def wLay (A : Pg) (s z l c v e : Nat) : Prop := z < 9 ∧ l ≤ 9 ∧ c ≤ 999 ∧ v ≤ 99 ∧ e ≤ 99 ∧ A 7 = nI z ∧ A (23 + 4 * z + 3) = nI l ∧ A (59 + 8 * s + 4) = nI c ∧ A (59 + 8 * s + 1) = nI v ∧ A (23 + 4 * z) - A 8 = nI e
end
