section
variable {F r : Nat} {M : zMi} {A : Pg}
theorem l_le {x y : Int32} : x.toInt64 ≤ y.toInt64 ↔ x ≤ y := by
  rw [Int64.le_iff_toInt_le, Int32.le_iff_toInt_le, Int32.toInt_toInt64, Int32.toInt_toInt64]
noncomputable def mEnd (v6 : Int32) (A : Pg) : Pg :=
  let D := if v6 = 0 then A else dRestOn (pU (pU A 10 0) 12 (A 12 + 1))
  pU D 3 (D 3 + 1)
theorem wTm_up {k : Nat} {v : Int32} (h : wTm A) (hk : k ≠ 0 ∧ (k < 13 ∨ 15 < k)) : wTm (pU A k v) := by
  refine ⟨by rw [pU_n (by omega)]; exact h.1, fun t ht => ?_⟩
  rw [pU_n (by omega), pU_n (by omega)]; exact h.2 t ht
theorem wTm_r {t : Nat} (h : wTm A) (ht : t < 3) : wTm (dRest1 t A) := by
  unfold dRest1
  refine ⟨by rw [pU_n (by omega)]; exact h.1, fun j hj => ?_⟩
  rw [pU_n (by omega : 0 ≠ 13 + t)]
  by_cases e : j = t
  · subst e
    rw [pU_s]
    have := h.2 j ht
    grind
  · rw [pU_n (by omega)]; exact h.2 j hj
theorem dRest1_z {t : Nat} (h : A (13 + t) = 0) : dRest1 t A = A := by
  unfold dRest1; rw [h]; simp only [Int32.lt_irrefl, ↓reduceIte]; rw [← h]; exact pU_i
theorem dRest1_n {t k : Nat} (h : k ≠ 13 + t) : dRest1 t A k = A k := by unfold dRest1; rw [pU_n h]
end
