section
variable {K : Nat} {A B : Pg}
theorem dNext_k {s k : Nat} (hs : s < 4) (h7 : k ≠ 7) (h8 : k ≠ 8) (h10 : k ≠ 10) (h11 : k ≠ 11) (hk : k < 59 ∨ 90 < k) : dNext A s k = A k := by
  unfold dNext
  (try dsimp only)
  split
  · rw [dHome_n h10 h11 (by omega) (by omega), pU_n h8, pU_n h7]
  · rw [pU_n h8, pU_n h7]
theorem dNext_7 {s : Nat} (hs : s < 4) : dNext A s 7 = A 7 + 1 := by
  unfold dNext
  (try dsimp only)
  split
  · rw [dHome_n (by decide) (by decide) (by omega) (by omega), pU_n (by decide), pU_s]
  · rw [pU_n (by decide), pU_s]
/-- what a day's work leaves as it was -/
theorem dWork_k {s k : Nat} (hs : s < 4) (h7 : k ≠ 7) (h8 : k ≠ 8) (h10 : k ≠ 10) (h11 : k ≠ 11) (h17 : k ≠ 17) (h18 : k ≠ 18) (hk : k < 59 ∨ 90 < k) : (dWork A s).2 k = A k := by
  unfold dWork dLay
  repeat' split
  all_goals dsimp only
  all_goals first
    | rfl
    | (rw [pU_n h11]; done)
    | (rw [pU_n h11, pU_n h10]; done)
    | (rw [dHome_n h10 h11 (by omega) (by omega)]; done)
    | (rw [dNext_k hs h7 h8 h10 h11 hk, dLaid_n (by omega) (by omega) h17 h18 h8]; done)
    | (rw [dLaid_n (by omega) (by omega) h17 h18 h8]; done)
theorem dWork_7 {s : Nat} (hs : s < 4) : (dWork A s).2 7 = A 7 ∨ ((dWork A s).2 7 = A 7 + 1 ∧ ¬ A (23 + 4 * ix (A 7) + 2) < A 3) := by
  unfold dWork dLay
  split
  · left; split <;> dsimp only <;> rw [pU_n (by decide)]
  · split
    · left; split
      · rfl
      · split <;> dsimp only <;> rw [pU_n (by decide), pU_n (by decide)]
    · split
      · left; rfl
      · split
        · left; rfl
        · rename_i hx
          split
          · left; rfl
          · split
            · left; dsimp only; rw [dHome_n (by decide) (by decide) (by omega) (by omega)]
            · dsimp only
              split
              · right
                refine ⟨?_, hx⟩
                rw [dNext_7 hs, dLaid_n (by omega) (by omega) (by decide) (by decide) (by decide)]
              · left; rw [dLaid_n (by omega) (by omega) (by decide) (by decide) (by decide)]
theorem dWork_17 (hB : WF K B) (hd : dF B ≠ 4) : B 17 ≤ (dWork B (dF B)).2 17 := by
  have hs : dF B < 4 := by have := dF_le B; omega
  have h7 : B 7 ≠ B 4 := fun y => hd (hB.2.2.2.2.2.1.1 y)
  obtain ⟨z, l, c, v, e, hw, -, -⟩ := WF_lay hB hs h7
  obtain ⟨m, m1, m2, m3, m4, m5⟩ := dLayU_N hw
  have hv : v ≤ 99 := hw.2.2.2.1
  have q := WF_17 hB
  have n0 : 0 ≤ nI m := nI_pos' (by omega)
  have n9 : nI m ≤ 99 := nI_le (b := 99) (by omega) (by decide)
  have le : B 17 ≤ B 17 + nI m := by grind
  have rf : B 17 ≤ B 17 := by grind
  generalize dF B = f at *
  have hl : B 17 ≤ (dLay B f).2 17 := by
    unfold dLay
    rw [m3]
    by_cases c0 : nI m = 0
    · rw [if_pos c0]
      show B 17 ≤ dHome B f (dWay B) 17
      rw [dHome_n (by decide) (by decide) (by omega) (by omega)]; exact rf
    · rw [if_neg c0]
      show B 17 ≤ (if _ = _ then _ else _ : Pg) 17
      split
      · rw [dNext_k hs (by decide) (by decide) (by decide) (by decide) (by decide), dLaid_17]; exact le
      · rw [dLaid_17]; exact le
  unfold dWork
  split
  · split <;> (show B 17 ≤ pU _ _ _ 17; rw [pU_n (by decide)]; exact rf)
  · split
    · split
      · exact rf
      · split <;> (show B 17 ≤ pU (pU _ _ _) _ _ 17; rw [pU_n (by decide), pU_n (by decide)]; exact rf)
    · split
      · exact rf
      · split
        · exact rf
        · split
          · exact rf
          · exact hl
theorem dEnd_k {rc : Int32} {k : Nat} (h3 : k ≠ 3) (h10 : k ≠ 10) (h12 : k ≠ 12) (h13 : k < 13 ∨ 15 < k) : dEnd rc A k = A k := by
  unfold dEnd
  (try dsimp only)
  split
  · rw [pU_n h3, dRestOn_n h13, pU_n h12, pU_n h10, dRest_n h13]
  · rw [pU_n h3, dRest_n h13]
theorem dBook_k {f k : Nat} {rc : Int32 × Pg} (h9 : k ≠ 9) (h19 : k ≠ 19) (h20 : k ≠ 20) : dBook B f rc k = rc.2 k := by
  unfold dBook
  (try dsimp only)
  rw [pU_n h20, pU_n h19, pU_n h9]
theorem dWk_4 (h : dF B = 4) : (dWk B).2 = B := by unfold dWk; rw [if_pos h]
theorem dWk_n4 (h : dF B ≠ 4) : dWk B = dWork B (dF B) := by unfold dWk; rw [if_neg h]
/-- a day's cells, read off the work -/
theorem dDay_k {k : Nat} (h3 : k ≠ 3) (h9 : k ≠ 9) (h10 : k ≠ 10) (h12 : k ≠ 12) (h13 : k < 13 ∨ 15 < k) (h19 : k ≠ 19) (h20 : k ≠ 20) : dDay A k = (dWk (dCome (dSail A))).2 k := by
  unfold dDay
  (try dsimp only)
  rw [dEnd_k h3 h10 h12 h13, dBook_k h9 h19 h20]
theorem dDay_3 : dDay A 3 = A 3 + 1 := by
  have e : dCome (dSail A) 3 = A 3 := by rw [dCome_n (by decide) (by decide), dSail_n (by decide)]
  have hw : ∀ X : Pg, (dWk X).2 3 = X 3 := fun X => by
    by_cases hd : dF X = 4
    · rw [dWk_4 hd]
    · rw [dWk_n4 hd]
      exact dWork_k (by have := dF_le X; omega) (by decide) (by decide) (by decide) (by decide) (by decide) (by decide) (by decide)
  unfold dDay dEnd
  (try dsimp only)
  rw [pU_s]
  split
  · rw [dRestOn_n (by decide), pU_n (by decide), pU_n (by decide), dRest_n (by decide), dBook_k (by decide) (by decide) (by decide), hw, e]
  · rw [dRest_n (by decide), dBook_k (by decide) (by decide) (by decide), hw, e]
theorem dDay_zn {k : Nat} (h1 : 23 ≤ k) (h2 : k < 59) : dDay A k = A k := by
  rw [dDay_k (by omega) (by omega) (by omega) (by omega) (by omega) (by omega) (by omega)]
  have e : dCome (dSail A) k = A k := by rw [dCome_n h2 (by omega), dSail_n h2]
  generalize dCome (dSail A) = B at *
  by_cases hd : dF B = 4
  · rw [dWk_4 hd, e]
  · rw [dWk_n4 hd, dWork_k (by have := dF_le B; omega) (by omega) (by omega) (by omega) (by omega) (by omega) (by omega) (Or.inl h2), e]
theorem dDay_7 (hA : WF K A) : dDay A 7 = A 7 ∨ (dDay A 7 = A 7 + 1 ∧ ¬ A (23 + 4 * ix (A 7) + 2) < A 3) := by
  rw [dDay_k (by omega) (by omega) (by omega) (by omega) (by omega) (by omega) (by omega)]
  have e : ∀ k, k < 59 → k ≠ 10 → dCome (dSail A) k = A k := fun k h1 h2 => by rw [dCome_n h1 h2, dSail_n h1]
  have hB := WF_come (WF_sail hA)
  obtain ⟨n, n9, n0, h4⟩ := wZ_N hA
  generalize dCome (dSail A) = B at *
  by_cases hd : dF B = 4
  · rw [dWk_4 hd]; left; rw [e 7 (by decide) (by decide)]
  · rw [dWk_n4 hd]
    have hw := dWork_7 (A := B) (s := dF B) (by have := dF_le B; omega)
    have h74 : B 7 ≠ B 4 := fun y => hd (hB.2.2.2.2.2.1.1 y)
    rw [e 7 (by decide) (by decide), e 4 (by decide) (by decide)] at h74
    rw [e 7 (by decide) (by decide), e 3 (by decide) (by decide)] at hw
    rcases hw with hw | ⟨w1, w2⟩
    · exact Or.inl hw
    · refine Or.inr ⟨w1, ?_⟩
      have q7 := hA.2.2.1.2.2.2.2.2.1
      rw [h4] at q7 h74
      obtain ⟨y, hy, e7⟩ := exN (n := n) q7.1 q7.2 (by omega)
      have c : ix (A 7) < 9 := by
        rw [e7, ixN (by omega)]
        have : y ≠ n := fun q => h74 (by rw [e7, q])
        omega
      rw [e _ (by omega) (by omega)] at w2
      exact w2
theorem dDay_17 (hA : WF K A) : A 17 ≤ dDay A 17 := by
  have hB := WF_come (WF_sail hA)
  have e17 : dCome (dSail A) 17 = A 17 := by rw [dCome_n (by decide) (by decide), dSail_n (by decide)]
  rw [dDay_k (by omega) (by omega) (by omega) (by omega) (by omega) (by omega) (by omega), ← e17]
  generalize dCome (dSail A) = B at *
  by_cases hd : dF B = 4
  · rw [dWk_4 hd]; grind
  · rw [dWk_n4 hd]; exact dWork_17 hB hd
theorem dDays_17 {n : Nat} : ∀ {K : Nat} {A : Pg}, WF K A → K + n ≤ 1000000000 → A 17 ≤ dDays n A 17 := by
  induction n with
  | zero => intro K A hA hK; show A 17 ≤ A 17; grind
  | succ n ih =>
    intro K A hA hK
    have h1 := dDay_17 hA
    have h2 := ih (WF_dday hA (by omega)) (by omega)
    show A 17 ≤ dDays n (dDay A) 17
    grind
theorem WF_17m {n : Nat} (hA : WF K A) (hK : K + n ≤ 1000000000) : ¬ dDays n A 17 - A 17 < 0 := by
  have h1 := dDays_17 hA hK
  have h2 := WF_17 hA
  have h3 := WF_17 (WF_days hA hK)
  grind
end
