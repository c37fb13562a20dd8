section
variable {F x b o K len : Nat} {M N : zMi} {X : zMl} {xs : Nat → Int32} {A : Pg}
theorem pR_0 {v : Int32} : pR (wI M b 0 v) (b + 3) (M (b + 3)) = wI M b 0 v := by
  have : wI M b 0 v (b + 3) = M (b + 3) := wI_ne (by omega)
  rw [← this]; exact pR_i
theorem wL_s {v : Int64} : wL X o 0 v o 0 = v := by simp [wL]
/-- free teams in the class -/
theorem c_isFreeG {i : Nat} (hi : i < 3) (h0 : M b 0 = A 0) : f_X6_isFree F b (nI i) M = some (if nI i < A 0 ∧ nI i ≠ M b 4 ∧ M (b + 1) i = 0 then 1 else 0) := by
  unfold f_X6_isFree
  rw [h0, if_neg (nI_pos (by omega)), if_pos (show nI i < 3 from nI_lt (b := 3) hi (by decide)), inbN hi (by decide), grd_t, ixN (by omega)]
  by_cases k1 : nI i < A 0
  · rw [if_pos k1]
    by_cases k3 : nI i = M b 4
    · rw [if_pos k3, if_neg (fun y => y.2.1 k3)]
    · rw [if_neg k3]
      by_cases k2 : M (b + 1) i = 0
      · rw [if_pos k2, if_pos ⟨k1, k3, k2⟩]
      · rw [if_neg k2, if_neg (fun y => k2 y.2.2)]
  · rw [if_neg k1, if_neg (fun y => k1 y.1)]
theorem c_freeStep {n i : Nat} {v : Int32} (hi : i < 3) (h0 : M b 0 = A 0) : f_X6_freeTeams_4 F b (n + 1) v (nI i) M = f_X6_freeTeams_4 F b n (v + (if nI i < A 0 ∧ nI i ≠ M b 4 ∧ M (b + 1) i = 0 then 1 else 0)) (nI (i + 1)) M := by
  rw [f_X6_freeTeams_4, if_pos (show nI i < 3 from nI_lt (b := 3) hi (by decide)), c_isFreeG hi h0, cal_s, ad1]
  by_cases k : nI i < A 0 ∧ nI i ≠ M b 4 ∧ M (b + 1) i = 0
  · rw [if_pos k, if_neg (show ¬ (1 : Int32) = 0 by decide)]
  · rw [if_neg k, if_pos rfl, Int32.add_zero]
theorem fr_arith {n y0 y1 y2 w t : Int32} (hn : n = 1 ∨ n = 2 ∨ n = 3) (h0 : y0 = 0 ∨ y0 = 1 ∨ y0 = 2) (h1 : (y1 = 0 ∨ y1 = 1 ∨ y1 = 2) ∧ (¬ nI 1 < n → y1 = 0)) (h2 : (y2 = 0 ∨ y2 = 1 ∨ y2 = 2) ∧ (¬ nI 2 < n → y2 = 0)) (hw : (w = -9 ∧ t = 0) ∨ (t = 1 ∧ ((w = nI 0 ∧ y0 = 0) ∨ (w = nI 1 ∧ nI 1 < n ∧ y1 = 0) ∨ (w = nI 2 ∧ nI 2 < n ∧ y2 = 0)))) :
    0 + (if nI 0 < n ∧ nI 0 ≠ w ∧ y0 = 0 then 1 else 0) + (if nI 1 < n ∧ nI 1 ≠ w ∧ y1 = 0 then 1 else 0) + (if nI 2 < n ∧ nI 2 ≠ w ∧ y2 = 0 then 1 else 0) = n - t - nI (3 - cq y0 y1 y2 0) := by
  obtain ⟨h1, s1⟩ := h1
  obtain ⟨h2, s2⟩ := h2
  rcases hn with rfl | rfl | rfl <;> rcases h0 with rfl | rfl | rfl <;> rcases h1 with rfl | rfl | rfl <;> rcases h2 with rfl | rfl | rfl <;> rcases hw with ⟨rfl, rfl⟩ | ⟨rfl, ⟨rfl, e⟩ | ⟨rfl, e1, e⟩ | ⟨rfl, e1, e⟩⟩ <;> first | decide | exact absurd e (by decide) | exact absurd e1 (by decide) | exact absurd (s1 (by decide)) (by decide) | exact absurd (s2 (by decide)) (by decide)
theorem c_free {a : Nat} (h : RC M a A) (ht : wTm A) (hF : 4 ≤ F) : f_X6_freeTeams F (a + 5) M = some (dFree A) := by
  obtain ⟨t1, t2, t3, t4, t5, t6, t7, t8⟩ := h.2.2.2.1
  have b0 := (ht.2 0 (by decide)).1
  have b1 := (ht.2 1 (by decide)).1
  have b2 := (ht.2 2 (by decide)).1
  obtain ⟨r, n0, n1⟩ := t8
  have r0 := r 0 (by decide)
  have r1 := r 1 (by decide)
  have r2 := r 2 (by decide)
  obtain ⟨m, hm⟩ : ∃ m, F = m + 4 := ⟨F - 4, by omega⟩
  have hh : ∀ F', F' = F → f_X6_freeTeams_4 F (a + 5) F' 0 (nI 0) M = some (0 + (if nI 0 < A 0 ∧ nI 0 ≠ M (a + 5) 4 ∧ M (a + 6) 0 = 0 then 1 else 0) + (if nI 1 < A 0 ∧ nI 1 ≠ M (a + 5) 4 ∧ M (a + 6) 1 = 0 then 1 else 0) + (if nI 2 < A 0 ∧ nI 2 ≠ M (a + 5) 4 ∧ M (a + 6) 2 = 0 then 1 else 0)) := by
    intro F' hF'
    rw [hF', show f_X6_freeTeams_4 F (a + 5) F = f_X6_freeTeams_4 F (a + 5) (m + 4) from by rw [← hm]]
    rw [c_freeStep (by decide) t1, c_freeStep (by decide) t1, c_freeStep (by decide) t1, f_X6_freeTeams_4, if_neg (show ¬ nI (0 + 1 + 1 + 1) < (3 : Int32) by decide)]
  unfold f_X6_freeTeams
  rw [show f_X6_freeTeams_4 F (a + 5) F (0 : Int32) (0 : Int32) M = f_X6_freeTeams_4 F (a + 5) F 0 (nI 0) M from rfl, hh F rfl]
  congr 1
  unfold dFree
  rw [posA b0 b1 b2, ← n0]
  refine fr_arith ht.1 r0.1 r1 r2 ?_
  by_cases h10 : A 10 = 2
  · obtain ⟨i, i1, i2, i3, i4⟩ := t7 h10
    have ci : i = 0 ∨ i = 1 ∨ i = 2 := by omega
    refine Or.inr ⟨if_pos h10, ?_⟩
    rcases ci with rfl | rfl | rfl
    · exact Or.inl ⟨i3, i4⟩
    · exact Or.inr (Or.inl ⟨i3, i2, i4⟩)
    · exact Or.inr (Or.inr ⟨i3, i2, i4⟩)
  · exact Or.inl ⟨t6 h10, if_neg h10⟩
/-- the cable aboard of all ships -/
noncomputable def dAb (A : Pg) : Int32 := 0 + A 63 + A 71 + A 79 + A 87
theorem c_abStep {a n s : Nat} {v : Int32} (h : RC M a A) (hs : s < 4) : f_X5_aboardOfAll_13 F a (n + 1) v (nI s) M = f_X5_aboardOfAll_13 F a n (v + A (59 + 8 * s + 4)) (nI (s + 1)) M := by
  rw [f_X5_aboardOfAll_13, if_pos (show nI s < 4 from nI_lt (b := 4) hs (by decide)), inbN hs (by decide), grd_t, ixN (by omega), Nat.one_mul, show a + 2 + 15 + s = a + 17 + s from rfl, bnd_e, RC_s h hs (by decide), bnd_e, ad1]
theorem c_ab {a : Nat} (h : RC M a A) (hF : 5 ≤ F) : f_X5_aboardOfAll F a M = some (dAb A) := by
  obtain ⟨m, hm⟩ : ∃ m, F = m + 5 := ⟨F - 5, by omega⟩
  have hh : ∀ F', F' = F → f_X5_aboardOfAll_13 F a F' 0 (nI 0) M = some (dAb A) := by
    intro F' hF'
    rw [hF', show f_X5_aboardOfAll_13 F a F = f_X5_aboardOfAll_13 F a (m + 5) from by rw [← hm]]
    rw [c_abStep h (by decide), c_abStep h (by decide), c_abStep h (by decide), c_abStep h (by decide), f_X5_aboardOfAll_13, if_neg (show ¬ nI (0 + 1 + 1 + 1 + 1) < (4 : Int32) by decide)]
    rfl
  exact hh F rfl
end
section
variable {F x b o K len : Nat} {M N : zMi} {X : zMl} {xs : Nat → Int32} {A : Pg}
theorem about_out {p : Int32} (c : ¬ (0 ≤ p ∧ p ≤ 13)) : f_X10_about F x p M = some (.inl 1) := by
  have hn : ∀ j : Int32, (0 ≤ j ∧ j ≤ 13) → ¬ p = j := fun j hj e => c (by rw [e]; exact hj)
  unfold f_X10_about
  rw [if_neg (hn 0 (by decide)), if_neg (hn 1 (by decide)), if_neg (hn 2 (by decide)), if_neg (hn 3 (by decide)), if_neg (hn 4 (by decide)), if_neg (hn 5 (by decide)), if_neg (hn 6 (by decide)), if_neg (hn 7 (by decide)), if_neg (hn 8 (by decide)), if_neg (hn 9 (by decide)), if_neg (hn 10 (by decide)), if_neg (hn 11 (by decide)), if_neg (hn 12 (by decide)), if_neg (hn 13 (by decide))]
theorem c_stage {a : Nat} (h : RC M a A) (hA : WF K A) : f_X6_stageOfSplice F (a + 5) M = some (A 10) := by
  obtain ⟨t1, t2, t3, t4, t5, t6, t7, t8⟩ := h.2.2.2.1
  have q10 := hA.2.2.1.2.2.2.2.2.2.2.1
  unfold f_X6_stageOfSplice f_X6_spliceGoesOn
  rw [t5]
  by_cases k1 : A 10 = 1
  · rw [if_pos k1, if_neg (show ¬ (1 : Int32) = 0 by decide), k1]
  · rw [if_neg k1, if_pos rfl]
    by_cases k2 : A 10 = 2
    · obtain ⟨i, i1, i2, i3, i4⟩ := t7 k2
      rw [i3, if_neg (nI_n9 i1), cal_s, if_neg (show ¬ (1 : Int32) = 0 by decide), k2]
    · rw [t6 k2, if_pos rfl, cal_s, if_pos rfl]
      congr 1
      grind
end
