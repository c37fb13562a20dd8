section
variable {F r : Nat} {M : zMi} {A : Pg}
theorem dF_le (A : Pg) : dF A ≤ 4 := by unfold dF; repeat' split
                                        all_goals omega
theorem dFi_eq (A : Pg) : dFi A = -9 ↔ dF A = 4 := by
  unfold dFi
  have h := dF_le A
  generalize dF A = q at *
  have h1 : q = 0 ∨ q = 1 ∨ q = 2 ∨ q = 3 ∨ q = 4 := by omega
  rcases h1 with rfl | rfl | rfl | rfl | rfl <;> decide
theorem wFl_up {k : Nat} {v : Int32} (h : wFl A) (h5 : k ≠ 5) (hk : k < 59 ∨ 91 ≤ k) : wFl (pU A k v) := by
  refine ⟨by rw [pU_n (by omega)]; exact h.1, fun s hs h6 j hj => ?_⟩
  rw [pU_n (by omega)] at h6
  rw [pU_n (by omega)]; exact h.2 s hs h6 j hj
theorem wFl_sh {s k : Nat} {v : Int32} (h : wFl A) (hs : s < 4) (hf : nI s < A 5) (hk : k < 8) : wFl (pU A (59 + 8 * s + k) v) := by
  refine ⟨by rw [pU_n (by omega)]; exact h.1, fun t ht h6 j hj => ?_⟩
  rw [pU_n (by omega)] at h6
  have : t ≠ s := fun e => h6 (e ▸ hf)
  rw [pU_n (by omega)]; exact h.2 t ht h6 j hj
theorem dF_c1 {s : Nat} (hs : s < 4) : dF (dCome1 s A) ≠ 4 := by
  unfold dF dCome1
  have : s = 0 ∨ s = 1 ∨ s = 2 ∨ s = 3 := by omega
  rcases this with rfl | rfl | rfl | rfl <;> simp [pU] <;> grind
end
