section
variable {F a b r K : Nat} {M N : zMi} {A B : Pg}
noncomputable def dUn (z : Int32) : Nat → Nat → Pg → Int32
  | 0, m, A => if z < A 7 then nI m else -9
  | j + 1, m, A => if z < A 7 then nI m else dUn z j (m + 1) (dDay A)
theorem c_until (hF : 101 ≤ F) {z : Int32} {j : Nat} : ∀ {K m fu : Nat} {M : zMi} {A : Pg}, RC M a A → WF K A → K + j ≤ 900000000 → m + j = 400 → j < fu → ∃ M' k, f_X5_daysUntilDone_2 F a z fu (nI m) M = some (dUn z j m A, M') ∧ fr a M M' ∧ k ≤ j ∧ RC M' a (dDays k A) ∧ (dUn z j m A = -9 ∨ dUn z j m A = nI (m + k)) := by
  induction j with
  | zero =>
    intro K m fu M A h hA hK hm hf
    obtain ⟨n, rfl⟩ : ∃ n, fu = n + 1 := ⟨fu - 1, by omega⟩
    have : m = 400 := by omega
    subst this
    rw [f_X5_daysUntilDone_2, if_neg (show ¬ nI 400 < (400 : Int32) by decide), h.1.2.2.2.2.1]
    unfold dUn
    by_cases k : z < A 7
    · rw [if_pos k, if_pos k]; exact ⟨M, 0, rfl, fr_r, by omega, h, Or.inr rfl⟩
    · rw [if_neg k, if_neg k]; exact ⟨M, 0, rfl, fr_r, by omega, h, Or.inl rfl⟩
  | succ j ih =>
    intro K m fu M A h hA hK hm hf
    obtain ⟨n, rfl⟩ : ∃ n, fu = n + 1 := ⟨fu - 1, by omega⟩
    rw [f_X5_daysUntilDone_2, if_pos (show nI m < 400 from nI_lt (b := 400) (by omega) (by decide)), h.1.2.2.2.2.1]
    unfold dUn
    by_cases k : z < A 7
    · rw [if_pos k, if_pos k]; exact ⟨M, 0, rfl, fr_r, by omega, h, Or.inr rfl⟩
    · rw [if_neg k, if_neg k]
      obtain ⟨M1, a1, b1, c1⟩ := c_day (F := F) h hA (by omega) hF
      obtain ⟨M2, k2, a2, b2, e2, c2, d2⟩ := ih (m := m + 1) (fu := n) c1 (WF_dday hA (by omega)) (by omega) (by omega) (by omega)
      rw [a1, cal_s, ad1, a2]
      refine ⟨M2, k2 + 1, rfl, fr_t b1 b2, by omega, c2, ?_⟩
      rcases d2 with d2 | d2
      · exact Or.inl d2
      · exact Or.inr (by rw [d2]; congr 1; omega)
theorem c_canSend {s : Nat} (h : RC M a A) (hs : s < 4) (hle : A 7 ≤ A 4) : f_X5_canSendOut F a (a + 17 + s) M = some (if A (59 + 8 * s + 5) = 0 ∧ A 7 ≠ A 4 then 1 else 0) := by
  unfold f_X5_canSendOut
  rw [RC_s h hs (by decide), c_isFin h, cal_s]
  have e : A 7 < A 4 ↔ A 7 ≠ A 4 := by constructor <;> grind
  by_cases k1 : A (59 + 8 * s + 5) = 0 <;> by_cases k2 : A 7 = A 4
  · rw [if_pos k1, if_neg (show ¬ A 7 < A 4 from fun x => (e.mp x) k2)]; simp [k1, k2]
  · rw [if_pos k1, if_pos (e.mpr k2)]; simp [k1, k2]
  · rw [if_neg k1]; simp [k1]
  · rw [if_neg k1]; simp [k1]
/-- what a ship takes aboard when it is filled -/
noncomputable def dFillU (s : Nat) (A : Pg) : Int32 := zmin (A 2) (A (59 + 8 * s) - A (59 + 8 * s + 4))
noncomputable def dFill (s : Nat) (A : Pg) : Pg := dSend s (dTake s (dFillU s A) A)
theorem WF_fill {s : Nat} (hA : WF K A) (hs : s < 4) (hp : nI s < A 5) (hw : A (59 + 8 * s + 5) = 0) : WF K (dFill s A) := by
  obtain ⟨c1, c2, c3, c4⟩ := hA.2.2.2.2.2.2.2 s hs
  have q2 := hA.2.2.1.2.1
  have hu : 0 ≤ dFillU s A ∧ dFillU s A ≤ A 2 ∧ dFillU s A ≤ A (59 + 8 * s) - A (59 + 8 * s + 4) := by
    unfold dFillU zmin
    split <;> grind
  have h1 := WF_take hA hs hp hu
  refine WF_send h1 hs ?_ ?_
  · unfold dTake; rw [pU_n (by omega), pU_n (by decide)]; exact hp
  · unfold dTake; rw [pU_n (by omega), pU_n (by omega)]; exact hw
theorem c_fill {s : Nat} (h : RC M a A) (hA : WF K A) (hs : s < 4) (hp : nI s < A 5) : ∃ M', f_X5_fillAndSend F a (nI s) M = some ((if A (59 + 8 * s + 5) = 0 ∧ A 7 ≠ A 4 then 1 else 0), M') ∧ fr a M M' ∧ RC M' a (if A (59 + 8 * s + 5) = 0 ∧ A 7 ≠ A 4 then dFill s A else A) := by
  unfold f_X5_fillAndSend
  rw [c_shipS h hA.1 hs hp, cal_s, zo_s, c_canSend h hs hA.2.2.1.2.2.2.2.2.1.2, cal_s]
  by_cases k : A (59 + 8 * s + 5) = 0 ∧ A 7 ≠ A 4
  · rw [if_pos k, if_pos k, if_neg (show ¬ (1 : Int32) = 0 by decide), h.1.2.2.1, show M (a + 17 + s) 0 = A (59 + 8 * s) from RC_s h hs (k := 0) (by decide), RC_s h hs (by decide)]
    obtain ⟨M1, a1, b1, c1⟩ := c_take (F := F) (u := dFillU s A) h hs
    obtain ⟨M2, a2, b2, c2⟩ := c_send (F := F) c1 hs
    unfold dFillU at a1
    rw [a1, cal_s, a2, cal_s]
    exact ⟨M2, rfl, fr_t b1 b2, c2⟩
  · rw [if_neg k, if_neg k, if_pos rfl]
    exact ⟨M, rfl, fr_r, h⟩
end
