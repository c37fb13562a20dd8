section
variable {K : Nat} {A B : Pg} {s : Nat}
/-- where a ship is after the first part of a day -/
noncomputable def sl (A : Pg) (s : Nat) : Int32 := if A (59 + 8 * s + 5) = 1 ∨ A (59 + 8 * s + 5) = 4 then (if A (59 + 8 * s + 6) - 1 = 0 then (if A (59 + 8 * s + 5) = 1 then 2 else 0) else A (59 + 8 * s + 5)) else A (59 + 8 * s + 5)
theorem sl_cg (h5 : B (59 + 8 * s + 5) = A (59 + 8 * s + 5)) (h6 : B (59 + 8 * s + 6) = A (59 + 8 * s + 6)) : sl B s = sl A s := by unfold sl; rw [h5, h6]
theorem dSail1_5 : dSail1 s A (59 + 8 * s + 5) = sl A s := by
  unfold dSail1 sl
  split
  · split
    · split
      · exact pU_s
      · exact pU_s
    · exact pU_n (by omega)
  · rfl
theorem sl_o {t : Nat} (h : t ≠ s) : sl (dSail1 t A) s = sl A s := sl_cg (dSail1_n (by omega) (by omega)) (dSail1_n (by omega) (by omega))
theorem dSail_5 (hs : s < 4) : dSail A (59 + 8 * s + 5) = sl A s := by
  have c : s = 0 ∨ s = 1 ∨ s = 2 ∨ s = 3 := by omega
  unfold dSail
  rcases c with rfl | rfl | rfl | rfl
  · rw [dSail1_n (by omega) (by omega), dSail1_n (by omega) (by omega), dSail1_n (by omega) (by omega), dSail1_5]
  · rw [dSail1_n (by omega) (by omega), dSail1_n (by omega) (by omega), dSail1_5, sl_o (by decide)]
  · rw [dSail1_n (by omega) (by omega), dSail1_5, sl_o (by decide), sl_o (by decide)]
  · rw [dSail1_5, sl_o (by decide), sl_o (by decide), sl_o (by decide)]
theorem dSail_sh {j : Nat} (h5 : j ≠ 5) (h6 : j ≠ 6) (hj : j < 8) : dSail A (59 + 8 * s + j) = A (59 + 8 * s + j) := by
  unfold dSail
  rw [dSail1_n (by omega) (by omega), dSail1_n (by omega) (by omega), dSail1_n (by omega) (by omega), dSail1_n (by omega) (by omega)]
theorem sl_2 : sl A s = 2 ↔ (A (59 + 8 * s + 5) = 2 ∨ (A (59 + 8 * s + 5) = 1 ∧ A (59 + 8 * s + 6) = 1)) := by
  unfold sl
  generalize A (59 + 8 * s + 5) = w
  generalize A (59 + 8 * s + 6) = l
  by_cases c : w = 1 ∨ w = 4
  · rw [if_pos c]
    by_cases d : l - 1 = 0
    · rw [if_pos d]
      have : l = 1 := by grind
      subst this
      by_cases e : w = 1
      · subst e; simp
      · have := c.resolve_left e; subst this; decide
    · rw [if_neg d]
      have : l ≠ 1 := by grind
      exact ⟨fun y => Or.inl y, fun y => by rcases y with y | ⟨-, y⟩; exact y; exact absurd y this⟩
  · rw [if_neg c]
    exact ⟨fun y => Or.inl y, fun y => by rcases y with y | ⟨y, -⟩; exact y; exact absurd (Or.inl y) c⟩
theorem sl_3 : sl A s = 3 ↔ A (59 + 8 * s + 5) = 3 := by
  unfold sl
  generalize A (59 + 8 * s + 5) = w
  generalize A (59 + 8 * s + 6) = l
  by_cases c : w = 1 ∨ w = 4
  · rw [if_pos c]
    by_cases d : l - 1 = 0
    · rw [if_pos d]
      rcases c with rfl | rfl <;> decide
    · rw [if_neg d]
  · rw [if_neg c]
theorem sl_p (h0 : 0 ≤ A (59 + 8 * s + 5)) : 0 < sl A s ↔ (0 < A (59 + 8 * s + 5) ∧ ¬ (A (59 + 8 * s + 5) = 4 ∧ A (59 + 8 * s + 6) = 1)) := by
  unfold sl
  generalize A (59 + 8 * s + 5) = w at *
  generalize A (59 + 8 * s + 6) = l
  by_cases c : w = 1 ∨ w = 4
  · rw [if_pos c]
    by_cases d : l - 1 = 0
    · rw [if_pos d]
      have : l = 1 := by grind
      subst this
      rcases c with rfl | rfl <;> decide
    · rw [if_neg d]
      have : l ≠ 1 := by grind
      exact ⟨fun y => ⟨y, fun z => this z.2⟩, fun y => y.1⟩
  · rw [if_neg c]
    exact ⟨fun y => ⟨y, fun z => c (Or.inr z.1)⟩, fun y => y.1⟩
/-- what the law adds for a ship's day -/
noncomputable def rt (A : Pg) (s : Nat) : Int32 := if 0 < A (59 + 8 * s + 5) ∧ ¬ (A (59 + 8 * s + 5) = 4 ∧ A (59 + 8 * s + 6) = 1) then A (59 + 8 * s + 3) else 0
noncomputable def rtS (A : Pg) : Nat → Int32
  | 0 => 0
  | i + 1 => rtS A i + rt A i
noncomputable def cmS (A : Pg) : Nat → Int32
  | 0 => 0
  | i + 1 => if A (59 + 8 * i + 5) = 2 ∨ (A (59 + 8 * i + 5) = 1 ∧ A (59 + 8 * i + 6) = 1) then cmS A i ||| 1 else cmS A i ||| 0
theorem cmS_sp {i : Nat} : (cmS A i = 0 ∧ ∀ t, t < i → sl A t ≠ 2) ∨ (cmS A i = 1 ∧ ∃ t, t < i ∧ sl A t = 2) := by
  induction i with
  | zero => exact Or.inl ⟨rfl, fun t ht => absurd ht (Nat.not_lt_zero _)⟩
  | succ i ih =>
    unfold cmS
    by_cases c : A (59 + 8 * i + 5) = 2 ∨ (A (59 + 8 * i + 5) = 1 ∧ A (59 + 8 * i + 6) = 1)
    · rw [if_pos c]
      right
      refine ⟨?_, i, by omega, sl_2.mpr c⟩
      rcases ih with ⟨e, -⟩ | ⟨e, -⟩ <;> rw [e] <;> decide
    · rw [if_neg c]
      rcases ih with ⟨e, h⟩ | ⟨e, t, t1, t2⟩
      · left
        refine ⟨by rw [e]; decide, fun t ht => ?_⟩
        by_cases k : t = i
        · subst k; exact fun y => c (sl_2.mp y)
        · exact h t (by omega)
      · right
        exact ⟨by rw [e]; decide, t, by omega, t2⟩
/-- the second part of a day leaves where ships are, but for the one that comes -/
theorem dCome_sh {k : Nat} (hk : 59 ≤ k) (h5 : k ≠ 64 ∧ k ≠ 72 ∧ k ≠ 80 ∧ k ≠ 88) : dCome A k = A k := by
  unfold dCome
  repeat' split
  all_goals first | rfl | exact dCome1_n (by omega) (by omega)
theorem dCome_p (h : 59 + 8 * s + 5 < 90) (hs : s < 4) : 0 < dCome A (59 + 8 * s + 5) ↔ 0 < A (59 + 8 * s + 5) := by
  have h1 : ∀ t, A (59 + 8 * t + 5) = 2 → (0 < dCome1 t A (59 + 8 * s + 5) ↔ 0 < A (59 + 8 * s + 5)) := fun t ht => by
    by_cases e : s = t
    · subst e
      rw [show dCome1 s A (59 + 8 * s + 5) = 3 by unfold dCome1; rw [pU_n (by omega), pU_s], ht]
      decide
    · rw [dCome1_n (by omega) (by omega)]
  unfold dCome
  split
  · split
    · rename_i c; exact h1 0 c
    · split
      · rename_i c; exact h1 1 c
      · split
        · rename_i c; exact h1 2 c
        · split
          · rename_i c; exact h1 3 c
          · exact Iff.rfl
  · exact Iff.rfl
theorem if_i {p q : Prop} [Decidable p] [Decidable q] {a b : Int32} (h : p ↔ q) : (if p then a else b) = (if q then a else b) := by
  by_cases c : p
  · rw [if_pos c, if_pos (h.mp c)]
  · rw [if_neg c, if_neg (fun y => c (h.mpr y))]
theorem dSea_r (hA : WF K A) {S : Nat} (h5 : A 5 = nI S) (S0 : 0 < S) (S4 : S ≤ 4) : dSea (dCome (dSail A)) = rtS A S := by
  have w := fun s (hs : s < 4) => (hA.2.2.2.2.2.2.2 s hs).2.2.2.1
  have z := fun s (hs : s < 4) (h : S ≤ s) => hA.1.2 s hs (by rw [h5]; exact nI_nlt h (by omega))
  have q : ∀ s, s < 4 → (if 0 < dCome (dSail A) (59 + 8 * s + 5) then dCome (dSail A) (59 + 8 * s + 3) else 0) = rt A s := fun s hs => by
    rw [dCome_sh (k := 59 + 8 * s + 3) (by omega) (by omega), dSail_sh (by decide) (by decide) (by decide)]
    unfold rt
    refine if_i ?_
    rw [dCome_p (by omega) hs, dSail_5 hs]
    exact sl_p (w s hs)
  have r0 : ∀ s, s < 4 → S ≤ s → rt A s = 0 := fun s hs h => by
    unfold rt
    rw [if_neg (fun y => by rw [z s hs h 5 (by decide)] at y; exact absurd y.1 (by decide))]
  have e : dSea (dCome (dSail A)) = rtS A 4 := by
    unfold dSea
    show _ = (((0 + rt A 0) + rt A 1) + rt A 2) + rt A 3
    rw [← q 0 (by decide), ← q 1 (by decide), ← q 2 (by decide), ← q 3 (by decide)]
  rw [e]
  have c : S = 1 ∨ S = 2 ∨ S = 3 ∨ S = 4 := by omega
  rcases c with rfl | rfl | rfl | rfl
  · show ((rtS A 1 + rt A 1) + rt A 2) + rt A 3 = rtS A 1
    rw [r0 1 (by decide) (by decide), r0 2 (by decide) (by decide), r0 3 (by decide) (by decide)]; grind
  · show (rtS A 2 + rt A 2) + rt A 3 = rtS A 2
    rw [r0 2 (by decide) (by decide), r0 3 (by decide) (by decide)]; grind
  · show rtS A 3 + rt A 3 = rtS A 3
    rw [r0 3 (by decide) (by decide)]; grind
  · rfl
-- ---- a day's cells
theorem dWk_k {k : Nat} (h7 : k ≠ 7) (h8 : k ≠ 8) (h10 : k ≠ 10) (h11 : k ≠ 11) (h17 : k ≠ 17) (h18 : k ≠ 18) (hk : k < 59) : (dWk B).2 k = B k := by
  by_cases hd : dF B = 4
  · rw [dWk_4 hd]
  · rw [dWk_n4 hd]
    exact dWork_k (by have := dF_le B; omega) h7 h8 h10 h11 h17 h18 (Or.inl hk)
theorem dDay_9 : dDay A 9 = if (dWk (dCome (dSail A))).1 = 10 then 0 else (dWk (dCome (dSail A))).1 := by
  unfold dDay
  (try dsimp only)
  rw [dEnd_k (by decide) (by decide) (by decide) (by decide), dBook_9]
theorem dDay_19 (hA : WF K A) {S : Nat} (h5 : A 5 = nI S) (S0 : 0 < S) (S4 : S ≤ 4) : dDay A 19 = A 19 + rtS A S := by
  unfold dDay
  (try dsimp only)
  rw [dEnd_k (by decide) (by decide) (by decide) (by decide), dBook_19, dSea_r hA h5 S0 S4, dWk_k (by decide) (by decide) (by decide) (by decide) (by decide) (by decide) (by decide), dCome_n (by decide) (by decide), dSail_n (by decide)]
theorem dDay_10 : dDay A 10 = if (dWk (dCome (dSail A))).1 = 10 then 0 else (dWk (dCome (dSail A))).2 10 := by
  unfold dDay dEnd
  (try dsimp only)
  by_cases c : (dWk (dCome (dSail A))).1 = 10
  · rw [if_pos c, if_pos c, pU_n (by decide), dRestOn_n (by decide), pU_n (by decide), pU_s]
  · rw [if_neg c, if_neg c, pU_n (by decide), dRest_n (by decide), dBook_k (by decide) (by decide) (by decide)]
theorem dDay_12 : dDay A 12 = if (dWk (dCome (dSail A))).1 = 10 then A 12 + 1 else A 12 := by
  have e : (dWk (dCome (dSail A))).2 12 = A 12 := by
    rw [dWk_k (by decide) (by decide) (by decide) (by decide) (by decide) (by decide) (by decide), dCome_n (by decide) (by decide), dSail_n (by decide)]
  unfold dDay dEnd
  (try dsimp only)
  by_cases c : (dWk (dCome (dSail A))).1 = 10
  · rw [if_pos c, if_pos c, pU_n (by decide), dRestOn_n (by decide), pU_s, dRest_n (by decide), dBook_k (by decide) (by decide) (by decide), e]
  · rw [if_neg c, if_neg c, pU_n (by decide), dRest_n (by decide), dBook_k (by decide) (by decide) (by decide), e]
theorem dDay_s {k : Nat} (hk : k < 59) (h3 : k ≠ 3) (h7 : k ≠ 7) (h8 : k ≠ 8) (h9 : k ≠ 9) (h10 : k ≠ 10) (h11 : k ≠ 11) (h12 : k ≠ 12) (h13 : k < 13 ∨ 15 < k) (h17 : k ≠ 17) (h18 : k ≠ 18) (h19 : k ≠ 19) (h20 : k ≠ 20) : dDay A k = A k := by
  rw [dDay_k h3 h9 h10 h12 h13 h19 h20, dWk_k h7 h8 h10 h11 h17 h18 hk, dCome_n hk h10, dSail_n hk]
end
