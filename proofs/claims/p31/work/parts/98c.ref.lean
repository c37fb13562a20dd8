section
variable {F b n i : Nat} {M N : zMi} {P : Pg} {tx : Nat → Nat}
def sP (b i : Nat) (P : Pg) (N : zMi) : zMi := pR (wI N b 3 (nI i)) (b + 2) P
theorem sP_3 : sP b i P N b 3 = nI i := by unfold sP; rw [pR_n (by omega)]; simp [wI]
theorem sP_k {k : Nat} (h : k ≠ 3) : sP b i P N b k = N b k := by unfold sP; rw [pR_n (by omega)]; simp [wI, h]
theorem sP_p : sP b i P N (b + 2) = P := by unfold sP; exact pR_s
theorem sP_q {q : Nat} (h : q ≠ b) (h2 : q ≠ b + 2) : sP b i P N q = N q := by unfold sP; rw [pR_n h2, wI_ne h]
theorem sP_w3 {j : Nat} : wI (sP b i P N) b 3 (nI j) = sP b j P N := by
  unfold sP
  rw [pR_wn (by omega)]
  congr 1
  funext y k; unfold wI; by_cases h1 : y = b <;> by_cases h2 : k = 3 <;> simp_all
theorem sP_wp {k : Nat} {v : Int32} : wI (sP b i P N) (b + 2) k v = sP b i (pU P k v) N := by
  unfold sP; rw [pR_w]
theorem sP_e (h3 : N b 3 = nI i) (hP : N (b + 2) = P) : sP b i P N = N := by
  funext y k; unfold sP pR wI; by_cases h1 : y = b + 2 <;> by_cases h2 : y = b <;> by_cases h4 : k = 3 <;> simp_all
theorem sP_s {j : Nat} {Q : Pg} : sP b i P (sP b j Q N) = sP b i P N := by
  funext y k; unfold sP pR wI; by_cases h1 : y = b + 2 <;> by_cases h2 : y = b <;> by_cases h4 : k = 3 <;> simp_all
/-- the text in the reference's memory -/
def TR (N : zMi) (b n : Nat) (tx : Nat → Nat) : Prop := n ≤ 160 ∧ N b 2 = nI n ∧ ∀ j, j < n → N (b + 1) j = nI (tx j) ∧ tx j < 256
end
