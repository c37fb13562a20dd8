section
variable {K : Nat} {A B : Pg} {s : Nat}
theorem dSail_hi {k : Nat} (h : 91 ≤ k) : dSail A k = A k := by
  unfold dSail
  rw [dSail1_n (by omega) (by omega), dSail1_n (by omega) (by omega), dSail1_n (by omega) (by omega), dSail1_n (by omega) (by omega)]
theorem dF_sail : dF (dSail A) = dF A := by
  have e : ∀ s, s < 4 → (dSail A (59 + 8 * s + 5) = 3 ↔ A (59 + 8 * s + 5) = 3) := fun s hs => by rw [dSail_5 hs]; exact sl_3
  exact dF_cg (e 0 (by decide)) (e 1 (by decide)) (e 2 (by decide)) (e 3 (by decide))
theorem dCome_s (h : ¬ (dF A = 4 ∧ A 7 ≠ A 4)) : dCome (dSail A) = dSail A := by
  unfold dCome
  rw [if_neg]
  rw [dF_sail, dSail_n (by decide), dSail_n (by decide)]
  exact h
theorem dWav_s : dWav (dSail A) (dSail A 3) = dWav A (A 3) := by
  unfold dWav
  rw [dSail_n (k := 6) (by decide), dSail_n (k := 3) (by decide), dSail_hi (by omega)]
theorem dDay_17k : dDay A 17 = (dWk (dCome (dSail A))).2 17 := dDay_k (by decide) (by decide) (by decide) (by decide) (by decide) (by decide) (by decide)
theorem dDay_over (hA : WF K A) (h : A 7 = A 4) : dDay A 9 = 0 ∧ dDay A 17 = A 17 := by
  have hd := hA.2.2.2.2.2.1.1 h
  have e : dWk (dSail A) = (0, dSail A) := by
    unfold dWk
    rw [dF_sail, if_pos hd, dSail_n (by decide), dSail_n (by decide), if_pos h]
  rw [dDay_9, dDay_17k, dCome_s (fun y => y.2 h), e]
  exact ⟨rfl, dSail_n (by decide)⟩
theorem dDay_none (hd : dF A = 4) (h7 : A 7 ≠ A 4) (hn : ∀ s, s < 4 → sl A s ≠ 2) : dDay A 9 = 6 ∧ dDay A 17 = A 17 ∧ dFi (dDay A) = -9 := by
  have eB : dCome (dSail A) = dSail A := by
    have x := fun s (hs : s < 4) => dSail_5 (A := A) hs
    unfold dCome
    split
    · rw [if_neg, if_neg, if_neg, if_neg]
      · exact fun y => hn 3 (by decide) ((x 3 (by decide)).symm.trans y)
      · exact fun y => hn 2 (by decide) ((x 2 (by decide)).symm.trans y)
      · exact fun y => hn 1 (by decide) ((x 1 (by decide)).symm.trans y)
      · exact fun y => hn 0 (by decide) ((x 0 (by decide)).symm.trans y)
    · rfl
  have e : dWk (dSail A) = (6, dSail A) := by
    unfold dWk
    rw [dF_sail, if_pos hd, dSail_n (by decide), dSail_n (by decide), if_neg h7]
  have ew : ∀ k, 59 ≤ k → dDay A k = dSail A k := fun k hk => by
    rw [dDay_k (by omega) (by omega) (by omega) (by omega) (by omega) (by omega) (by omega), eB, e]
  have ed : dF (dDay A) = 4 := by
    rw [← hd, ← dF_sail (A := A)]
    exact dF_cg (by rw [ew 64 (by decide)]) (by rw [ew 72 (by decide)]) (by rw [ew 80 (by decide)]) (by rw [ew 88 (by decide)])
  refine ⟨?_, ?_, ?_⟩
  · rw [dDay_9, eB, e]; rfl
  · rw [dDay_17k, eB, e]; exact dSail_n (by decide)
  · unfold dFi; rw [if_pos ed]
theorem dWork_6 : (dWork A s).1 ≠ 6 := by
  unfold dWork dLay
  repeat' split
  all_goals dsimp only
  all_goals decide
theorem dDay_come (hd : dF A = 4) (h7 : A 7 ≠ A 4) (hn : ∃ s, s < 4 ∧ sl A s = 2) : dDay A 9 ≠ 6 := by
  have hB : dF (dCome (dSail A)) ≠ 4 := by
    obtain ⟨s, s4, hs⟩ := hn
    have x := dSail_5 (A := A) s4
    rw [hs] at x
    unfold dCome
    rw [dF_sail, dSail_n (by decide), dSail_n (by decide), if_pos ⟨hd, h7⟩]
    split
    · exact dF_c1 (by decide)
    · split
      · exact dF_c1 (by decide)
      · split
        · exact dF_c1 (by decide)
        · split
          · exact dF_c1 (by decide)
          · rename_i c0 c1 c2 c3
            exfalso
            have c : s = 0 ∨ s = 1 ∨ s = 2 ∨ s = 3 := by omega
            rcases c with rfl | rfl | rfl | rfl
            · exact c0 x
            · exact c1 x
            · exact c2 x
            · exact c3 x
  rw [dDay_9, dWk_n4 hB]
  split
  · decide
  · exact dWork_6
theorem dWork_rj {j : Nat} (hj : j < 4) : (dWork A s).2 (59 + 8 * s + j) = A (59 + 8 * s + j) := by
  unfold dWork dLay
  repeat' split
  all_goals dsimp only
  all_goals first
    | rfl
    | (rw [pU_n (by omega)]; done)
    | (rw [pU_n (by omega), pU_n (by omega)]; done)
    | (rw [dHome_n (by omega) (by omega) (by omega) (by omega)]; done)
    | (rw [dNext_sh (by omega) (by omega), dLaid_n (by omega) (by omega) (by omega) (by omega) (by omega)]; done)
    | (rw [dLaid_n (by omega) (by omega) (by omega) (by omega) (by omega)]; done)
theorem dWk_f (hd : dF A ≠ 4) : dWk (dCome (dSail A)) = dWork (dSail A) (dF A) := by
  rw [dCome_s (fun y => hd y.1), dWk_n4 (by rw [dF_sail]; exact hd), dF_sail]
theorem dDay_sj {j : Nat} (hd : dF A ≠ 4) (hj : j < 4) : dDay A (59 + 8 * dF A + j) = A (59 + 8 * dF A + j) := by
  rw [dDay_k (by omega) (by omega) (by omega) (by omega) (by omega) (by omega) (by omega), dWk_f hd, dWork_rj hj, dSail_sh (by omega) (by omega) (by omega)]
theorem dDay_sp2 (hd : dF A ≠ 4) (h : A 10 = 2) : dDay A 9 = 0 ∧ dDay A 17 = A 17 ∧ dDay A 11 = A 11 - 1 ∧ dDay A 12 = A 12 + (if A 11 = 1 then 1 else 0) := by
  have e : dWork (dSail A) (dF A) = (if A 11 - 1 = 0 then (10, pU (dSail A) 11 (A 11 - 1)) else (0, pU (dSail A) 11 (A 11 - 1))) := by
    unfold dWork
    rw [dSail_n (k := 10) (by decide), if_pos h, dSail_n (k := 11) (by decide)]
  rw [dDay_9, dDay_12, dDay_17k, dDay_k (k := 11) (by decide) (by decide) (by decide) (by decide) (by decide) (by decide) (by decide), dWk_f hd, e]
  by_cases c : A 11 - 1 = 0
  · rw [if_pos c]
    dsimp only
    refine ⟨rfl, ?_, pU_s, ?_⟩
    · rw [pU_n (by decide)]; exact dSail_n (by decide)
    · rw [if_pos rfl, if_pos (by grind)]
  · rw [if_neg c]
    dsimp only
    refine ⟨rfl, ?_, pU_s, ?_⟩
    · rw [pU_n (by decide)]; exact dSail_n (by decide)
    · rw [if_neg (show ¬ (0 : Int32) = 10 by decide), if_neg (by grind)]; grind
theorem dDay_sp1 (hd : dF A ≠ 4) (h : A 10 = 1) : dDay A 17 = A 17 ∧ ((dDay A 9 = 5 ∧ dDay A 10 = 1) ∨ (dDay A 9 = 0 ∧ ¬ 3 < dWav A (A 3) ∧ ((A 1 = 1 ∧ dDay A 12 = A 12 + 1 ∧ dDay A 10 = 0) ∨ (A 1 ≠ 1 ∧ dDay A 11 = A 1 - 1)))) := by
  have e : dWork (dSail A) (dF A) = (if dFree (dSail A) = 0 ∨ 3 < dWav A (A 3) then (5, dSail A) else (if A 1 - 1 = 0 then (10, pU (pU (dSail A) 10 2) 11 (A 1 - 1)) else (0, pU (pU (dSail A) 10 2) 11 (A 1 - 1)))) := by
    unfold dWork
    rw [dSail_n (k := 10) (by decide), if_neg (by rw [h]; decide), if_pos h, dWav_s, dSail_n (k := 1) (by decide)]
  rw [dDay_9, dDay_12, dDay_10, dDay_17k, dDay_k (k := 11) (by decide) (by decide) (by decide) (by decide) (by decide) (by decide) (by decide), dWk_f hd, e]
  by_cases c : dFree (dSail A) = 0 ∨ 3 < dWav A (A 3)
  · rw [if_pos c]
    refine ⟨dSail_n (by decide), Or.inl ⟨rfl, ?_⟩⟩
    rw [if_neg (show ¬ (5 : Int32) = 10 by decide)]
    exact (dSail_n (by decide)).trans h
  · rw [if_neg c]
    by_cases c1 : A 1 - 1 = 0
    · rw [if_pos c1]
      dsimp only
      refine ⟨?_, Or.inr ⟨rfl, fun y => c (Or.inr y), Or.inl ⟨by grind, ?_, ?_⟩⟩⟩
      · rw [pU_n (by decide), pU_n (by decide)]; exact dSail_n (by decide)
      · rw [if_pos rfl]
      · rw [if_pos rfl]
    · rw [if_neg c1]
      dsimp only
      refine ⟨?_, Or.inr ⟨rfl, fun y => c (Or.inr y), Or.inr ⟨by grind, ?_⟩⟩⟩
      · rw [pU_n (by decide), pU_n (by decide)]; exact dSail_n (by decide)
      · exact pU_s
/-- a day at the front with nothing to splice -/
theorem dDay_sp0 (hA : WF K A) (hd : dF A ≠ 4) (h : A 10 = 0) : ∃ z l c v e : Nat, z < 9 ∧ l ≤ 9 ∧ c ≤ 999 ∧ v ≤ 99 ∧ e ≤ 99 ∧ 0 < e ∧ A 7 = nI z ∧ nI z < A 4 ∧ A (23 + 4 * z + 3) = nI l ∧ A (59 + 8 * dF A + 4) = nI c ∧ A (59 + 8 * dF A + 1) = nI v ∧ A (23 + 4 * z) - A 8 = nI e ∧
    (A 3 < A (23 + 4 * z + 1) → dDay A 9 = 1 ∧ dDay A 17 = A 17) ∧ (¬ A 3 < A (23 + 4 * z + 1) → A (23 + 4 * z + 2) < A 3 → dDay A 9 = 2 ∧ dDay A 17 = A 17) ∧ (¬ A 3 < A (23 + 4 * z + 1) → ¬ A (23 + 4 * z + 2) < A 3 → A (59 + 8 * dF A + 2) < dWav A (A 3) → dDay A 9 = 3 ∧ dDay A 17 = A 17) ∧
    (¬ A 3 < A (23 + 4 * z + 1) → ¬ A (23 + 4 * z + 2) < A 3 → ¬ A (59 + 8 * dF A + 2) < dWav A (A 3) → ∃ m, m = min (min v e) (100 * c / (100 + l)) ∧ dDay A 17 = A 17 + nI m ∧ (m = 0 → dDay A 9 = 4 ∧ dDay A (59 + 8 * dF A + 5) = 4 ∧ dDay A (59 + 8 * dF A + 4) = nI c) ∧ (0 < m → dDay A 9 = 0)) := by
  have hB := WF_sail hA
  have hs : dF A < 4 := by have := dF_le A; omega
  have h7 : A 7 ≠ A 4 := fun y => hd (hA.2.2.2.2.2.1.1 y)
  have n := fun k (hk : k < 59) => dSail_n (A := A) hk
  obtain ⟨z, l, c, v, e, hw, e0, hz4⟩ := WF_lay hB hs (by rw [n 7 (by decide), n 4 (by decide)]; exact h7)
  obtain ⟨w1, w2, w3, w4, w5, w6, w7, w8, w9, w10⟩ := id hw
  have e7 : ix (dSail A 7) = z := by rw [w6]; exact ixN (by omega)
  rw [n _ (by omega)] at w6 w7
  rw [n _ (by omega), n 8 (by decide)] at w10
  rw [dSail_sh (by decide) (by decide) (by decide)] at w8 w9
  rw [n 4 (by decide)] at hz4
  have eW : dWork (dSail A) (dF A) = (if A 3 < A (23 + 4 * z + 1) then (1, dSail A) else if A (23 + 4 * z + 2) < A 3 then (2, dSail A) else if A (59 + 8 * dF A + 2) < dWav A (A 3) then (3, dSail A) else dLay (dSail A) (dF A)) := by
    unfold dWork
    rw [n 10 (by decide), if_neg (by rw [h]; decide), if_neg (by rw [h]; decide), dWav_s, e7, n 3 (by decide), n _ (by omega), n _ (by omega), dSail_sh (by decide) (by decide) (by decide)]
  have eU : dLayU (dSail A) (dF A) = nI (min (min v e) (100 * c / (100 + l))) := by
    have em : (if nI v < nI e then nI v else nI e) = nI (min v e) := by
      by_cases k : v < e
      · rw [if_pos (nI_lt k (by omega)), Nat.min_eq_left (by omega)]
      · rw [if_neg (nI_nlt (by omega) (by omega)), Nat.min_eq_right (by omega)]
    unfold dLayU
    (try dsimp only)
    rw [e7, dSail_sh (by decide) (by decide) (by decide), n _ (by omega), n 8 (by decide), w9, w10, em]
    exact dMost_N (by omega) w2 w3 ((n _ (by omega)).trans w7) ((dSail_sh (by decide) (by decide) (by decide)).trans w8)
  refine ⟨z, l, c, v, e, w1, w2, w3, w4, w5, e0, w6, hz4, w7, w8, w9, w10, ?_, ?_, ?_, ?_⟩
  · intro c1
    rw [dDay_9, dDay_17k, dWk_f hd, eW, if_pos c1]
    exact ⟨rfl, n 17 (by decide)⟩
  · intro c1 c2
    rw [dDay_9, dDay_17k, dWk_f hd, eW, if_neg c1, if_pos c2]
    exact ⟨rfl, n 17 (by decide)⟩
  · intro c1 c2 c3
    rw [dDay_9, dDay_17k, dWk_f hd, eW, if_neg c1, if_neg c2, if_pos c3]
    exact ⟨rfl, n 17 (by decide)⟩
  · intro c1 c2 c3
    rw [dDay_9, dDay_17k, dDay_k (k := 59 + 8 * dF A + 5) (by omega) (by omega) (by omega) (by omega) (by omega) (by omega) (by omega), dDay_k (k := 59 + 8 * dF A + 4) (by omega) (by omega) (by omega) (by omega) (by omega) (by omega) (by omega), dWk_f hd, eW, if_neg c1, if_neg c2, if_neg c3]
    generalize hm : min (min v e) (100 * c / (100 + l)) = m at *
    have m9 : m ≤ 99 := by omega
    unfold dLay
    rw [eU]
    refine ⟨m, rfl, ?_, ?_, ?_⟩
    · by_cases k : m = 0
      · subst k
        rw [if_pos (show nI 0 = (0 : Int32) from rfl)]
        show dHome _ _ _ 17 = _
        rw [dHome_n (by decide) (by decide) (by omega) (by omega), n 17 (by decide)]
        show A 17 = A 17 + 0
        grind
      · rw [if_neg (nI_ne0 (by omega) (by omega))]
        show (if _ = _ then _ else _ : Pg) 17 = _
        split
        · rw [dNext_k hs (by decide) (by decide) (by decide) (by decide) (by decide), dLaid_17, n 17 (by decide)]
        · rw [dLaid_17, n 17 (by decide)]
    · intro k
      subst k
      rw [if_pos (show nI 0 = (0 : Int32) from rfl)]
      refine ⟨rfl, dHome_5, ?_⟩
      show dHome _ _ _ _ = _
      rw [dHome_n (by omega) (by omega) (by omega) (by omega)]
      exact (dSail_sh (by decide) (by decide) (by decide)).trans w8
    · intro k
      rw [if_neg (nI_ne0 k (by omega))]
      rfl
end
