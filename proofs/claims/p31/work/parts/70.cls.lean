section
variable {F a b K : Nat} {M : zMi} {A B C : Pg}
/-- a day goes by in the class, as on the page -/
theorem c_day (h : RC M a A) (hA : WF K A) (hK : K < 1000000000) (hF : 101 ≤ F) : ∃ M', f_X5_passDay F a M = some M' ∧ fr a M M' ∧ RC M' a (dDay A) := by
  obtain ⟨m, hm⟩ : ∃ m, F = m + 5 := ⟨F - 5, by omega⟩
  obtain ⟨M1, a1, b1, c1⟩ := c_dsail (F := F) (n := m) h
  rw [← hm] at a1
  have hS := WF_sail hA
  have hB := WF_come hS
  unfold f_X5_passDay dDay
  dsimp only
  rw [show (0 : Int32) = nI 0 from rfl, a1, f_X5_passDay_10, if_neg (show ¬ nI 4 < (4 : Int32) by decide), c_isFin c1, cal_s]
  generalize dSail A = S at *
  obtain ⟨q1, q2, q3, q4, q5, q6, q7, q8, q9, q10⟩ := hS.2.2.1
  by_cases q : S 7 = S 4
  · have e : dCome S = S := by unfold dCome; rw [if_neg (fun x => x.2 q)]
    rw [e] at hB ⊢
    obtain ⟨M', k1, k2, k3⟩ := c_dayB (F := F) c1 hB hK hF
    rw [if_neg (fun x => x q)] at k1
    rw [if_neg (show ¬ ((if S 7 < S 4 then (0 : Int32) else 1) = 0) by rw [q, if_neg Int32.lt_irrefl]; decide)]
    exact ⟨M', k1, fr_t b1 k2, k3⟩
  · obtain ⟨M2, a2, b2, c2⟩ := c_come (F := F) c1 hS.2.2.2.2.2.1.2.1 q (by omega)
    have e7 : dCome S 7 = S 7 := dCome_n (by decide) (by decide)
    have e4 : dCome S 4 = S 4 := dCome_n (by decide) (by decide)
    generalize dCome S = B at *
    obtain ⟨M', k1, k2, k3⟩ := c_dayB (F := F) c2 hB hK hF
    rw [if_pos (by rw [e7, e4]; exact q)] at k1
    have hlt : S 7 < S 4 := by grind
    rw [if_pos (show ((if S 7 < S 4 then (0 : Int32) else 1) = 0) by rw [if_pos hlt]), a2, cal_s]
    exact ⟨M', k1, fr_t b1 (fr_t b2 k2), k3⟩
end
