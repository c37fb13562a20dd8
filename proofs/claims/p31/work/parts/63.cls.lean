section
variable {F a b K : Nat} {M : zMi} {A B : Pg}
def rTs (x : Int32) (i : Nat) (R0 R1 A : Pg) : Prop := R0 0 = A 0 ∧ R0 1 = A 1 ∧ R0 5 = x ∧ R0 6 = A 12 ∧ R0 3 = 0 ∧ i < 3 ∧ nI i < A 0 ∧ R0 4 = nI i ∧ R1 i = 0 ∧ rRs R1 A
theorem nI_n9 {i : Nat} (hi : i < 3) : nI i ≠ -9 := by
  have c : i = 0 ∨ i = 1 ∨ i = 2 := by omega
  rcases c with rfl | rfl | rfl <;> decide
theorem c_isFree {i : Nat} (hi : i < 3) (h0 : M b 0 = A 0) (h4 : M b 4 = -9) : f_X6_isFree F b (nI i) M = some (if nI i < A 0 ∧ M (b + 1) i = 0 then 1 else 0) := by
  unfold f_X6_isFree
  rw [h0, h4, if_neg (nI_pos (by omega)), if_pos (show nI i < 3 from nI_lt (b := 3) hi (by decide)), if_neg (nI_n9 hi), inbN hi (by decide), grd_t, ixN (by omega)]
  by_cases k1 : nI i < A 0 <;> by_cases k2 : M (b + 1) i = 0 <;> simp only [k1, k2, ↓reduceIte, and_self, and_true, true_and, and_false, false_and]
theorem c_beginStep {n i : Nat} {w : Int32} (hi : i < 3) (h0 : M b 0 = A 0) (h4 : M b 4 = -9) : f_X6_beginSplice_2 F b w (n + 1) (nI i) M = if 3 < w then some (0, M) else if nI i < A 0 ∧ M (b + 1) i = 0 then some (1, wI (wI (wI M b 3 0) b 4 (nI i)) b 5 (M b 1)) else f_X6_beginSplice_2 F b w n (nI (i + 1)) M := by
  rw [f_X6_beginSplice_2, if_pos (show nI i < 3 from nI_lt (b := 3) hi (by decide)), c_isFree hi h0 h4, cal_s, ad1]
  simp only [bnd_e]
  rw [show wI (wI M b 3 0) b 4 (nI i) b 1 = M b 1 from by simp [wI]]
  by_cases k1 : nI i < A 0 ∧ M (b + 1) i = 0
  · simp only [k1, and_self, ↓reduceIte, show (1 : Int32) ≠ 0 from by decide]
  · simp only [k1, ↓reduceIte]
theorem c_begin {w : Int32} (h : RC M a A) (ht : wTm A) (h10 : A 10 = 1) (hF : 4 ≤ F) :
    (dFree A = 0 ∨ 3 < w → f_X6_beginSplice F (a + 5) w M = some (0, M)) ∧ (¬ (dFree A = 0 ∨ 3 < w) → ∃ i, i < 3 ∧ nI i < A 0 ∧ M (a + 6) i = 0 ∧ f_X6_beginSplice F (a + 5) w M = some (1, wI (wI (wI M (a + 5) 3 0) (a + 5) 4 (nI i)) (a + 5) 5 (A 1))) := by
  obtain ⟨t1, t2, t3, t4, t5, t6, t7, t8⟩ := h.2.2.2.1
  have t6 := t6 (by rw [h10]; decide)
  have hfr := free_R t8 ht (by rw [h10]; decide)
  obtain ⟨m, hm⟩ : ∃ m, F = m + 4 := ⟨F - 4, by omega⟩
  have c3 : ¬ nI 3 < (3 : Int32) := by decide
  have e : f_X6_beginSplice F (a + 5) w M = if 3 < w then some (0, M) else if nI 0 < A 0 ∧ M (a + 6) 0 = 0 then some (1, wI (wI (wI M (a + 5) 3 0) (a + 5) 4 (nI 0)) (a + 5) 5 (A 1)) else if nI 1 < A 0 ∧ M (a + 6) 1 = 0 then some (1, wI (wI (wI M (a + 5) 3 0) (a + 5) 4 (nI 1)) (a + 5) 5 (A 1)) else if nI 2 < A 0 ∧ M (a + 6) 2 = 0 then some (1, wI (wI (wI M (a + 5) 3 0) (a + 5) 4 (nI 2)) (a + 5) 5 (A 1)) else some (0, M) := by
    have hh : ∀ F', F' = F → f_X6_beginSplice_2 F (a + 5) w F' (nI 0) M = if 3 < w then some (0, M) else if nI 0 < A 0 ∧ M (a + 6) 0 = 0 then some (1, wI (wI (wI M (a + 5) 3 0) (a + 5) 4 (nI 0)) (a + 5) 5 (A 1)) else if nI 1 < A 0 ∧ M (a + 6) 1 = 0 then some (1, wI (wI (wI M (a + 5) 3 0) (a + 5) 4 (nI 1)) (a + 5) 5 (A 1)) else if nI 2 < A 0 ∧ M (a + 6) 2 = 0 then some (1, wI (wI (wI M (a + 5) 3 0) (a + 5) 4 (nI 2)) (a + 5) 5 (A 1)) else some (0, M) := by
      intro F' hF'
      rw [hF', show f_X6_beginSplice_2 F (a + 5) w F = f_X6_beginSplice_2 F (a + 5) w (m + 4) from by rw [← hm]]
      rw [c_beginStep (by decide) t1 t6, c_beginStep (by decide) t1 t6, c_beginStep (by decide) t1 t6, f_X6_beginSplice_2, if_neg c3, t2]
      by_cases k : 3 < w
      · simp only [k, ↓reduceIte]
      · simp only [k, ↓reduceIte]
    exact hh F rfl
  refine ⟨fun hx => ?_, fun hx => ?_⟩
  · rw [e]
    by_cases k : 3 < w
    · rw [if_pos k]
    · have hq := hfr.mp (by rcases hx with x | x; exact x; exact absurd x k)
      rw [if_neg k, if_neg (fun y => hq (Or.inl y)), if_neg (fun y => hq (Or.inr (Or.inl y))), if_neg (fun y => hq (Or.inr (Or.inr y)))]
  · have k : ¬ 3 < w := fun y => hx (Or.inr y)
    have hq : (nI 0 < A 0 ∧ M (a + 6) 0 = 0) ∨ (nI 1 < A 0 ∧ M (a + 6) 1 = 0) ∨ (nI 2 < A 0 ∧ M (a + 6) 2 = 0) := by
      apply Classical.byContradiction
      intro y
      exact hx (Or.inl (hfr.mpr y))
    rw [e, if_neg k]
    by_cases k0 : nI 0 < A 0 ∧ M (a + 6) 0 = 0
    · rw [if_pos k0]; exact ⟨0, by decide, k0.1, k0.2, rfl⟩
    · rw [if_neg k0]
      by_cases k1 : nI 1 < A 0 ∧ M (a + 6) 1 = 0
      · rw [if_pos k1]; exact ⟨1, by decide, k1.1, k1.2, rfl⟩
      · rw [if_neg k1]
        have k2 : nI 2 < A 0 ∧ M (a + 6) 2 = 0 := by
          rcases hq with y | y | y
          · exact absurd y k0
          · exact absurd y k1
          · exact y
        rw [if_pos k2]; exact ⟨2, by decide, k2.1, k2.2, rfl⟩
end
section
variable {F a b K : Nat} {M : zMi} {A B : Pg}
theorem c_wsp {x : Int32} {i : Nat} (h : RCt (rTs x i) M a A) (hx : 1 ≤ x ∧ x ≤ 3) :
    (x - 1 = 0 → ∃ M', f_X6_workOnSplice F (a + 5) M = some M' ∧ fr a M M' ∧ RCt rTd M' a A) ∧ (x - 1 ≠ 0 → ∃ M', f_X6_workOnSplice F (a + 5) M = some M' ∧ fr a M M' ∧ RCt (rTs (x - 1) i) M' a A) := by
  obtain ⟨t1, t2, t3, t4, t5, t6, t7, t8, t9, t10⟩ := h.2.2.2.1
  have e1 : wI M (a + 5) 5 (x - 1) (a + 5) 5 = x - 1 := by simp [wI]
  unfold f_X6_workOnSplice
  simp only [bnd_e, t3, e1]
  refine ⟨fun hy => ?_, fun hy => ?_⟩
  · have hn : ¬ 0 < x - 1 := by rw [hy]; decide
    rw [if_neg hn]
    have e2 : wI M (a + 5) 5 (x - 1) (a + 5) 6 = A 12 := by rw [← t4]; simp [wI]
    rw [e2]
    have e3 : wI (wI M (a + 5) 5 (x - 1)) (a + 5) 6 (A 12 + 1) (a + 5) 4 = nI i := by rw [← t8]; simp [wI]
    unfold f_X6_sendToRest
    rw [e3, if_neg (nI_pos (by omega)), if_pos (show nI i < 3 from nI_lt (b := 3) t6 (by decide)), inbN t6 (by decide), grd_t, ixN (by omega)]
    simp only [bnd_e, cal_s]
    refine ⟨_, rfl, fr_t (fr_t (fr_t (fr_t (fr_w (by omega)) (fr_w (by omega))) (fr_w (by omega))) (fr_w (by omega))) (fr_w (by omega)), ?_⟩
    refine RC_tm h (fun k _ _ _ => rfl) (fun q p1 p2 => by rw [wI_ne p1, wI_ne p1, wI_ne (show q ≠ a + 5 + 1 from p2), wI_ne p1, wI_ne p1]) ?_
    refine ⟨by simpa [wI] using t1, by simpa [wI] using t2, by simp [wI], by simp [wI], by simpa [wI] using t5, by simp [wI], i, t6, t7, by simp [wI], ?_⟩
    have er : pU (wI (wI (wI (wI (wI M (a + 5) 5 (x - 1)) (a + 5) 6 (A 12 + 1)) (a + 5 + 1) i 3) (a + 5) 4 (-9)) (a + 5) 5 0 (a + 6)) i 0 = M (a + 6) := by
      funext k
      unfold pU
      by_cases q : k = i
      · subst q; rw [if_pos rfl, t9]
      · rw [if_neg q]; simp [wI, q]
    rw [er]; exact t10
  · have hn : 0 < x - 1 := by grind
    rw [if_pos hn]
    refine ⟨_, rfl, fr_w (by omega), RC_tm h (fun k _ _ _ => rfl) (fun q p1 p2 => wI_ne p1) ?_⟩
    refine ⟨by simpa [wI] using t1, by simpa [wI] using t2, by simp [wI], by simpa [wI] using t4, by simpa [wI] using t5, t6, t7, by simpa [wI] using t8, ?_, ?_⟩
    · rw [wI_ne (by omega)]; exact t9
    · rw [wI_ne (by omega)]; exact t10
/-- back to the page that has the splice under way -/
theorem rTs_rT {x : Int32} {i : Nat} (h : RCt (rTs x i) M a A) (hB : ∀ k, k ≠ 10 → k ≠ 11 → B k = A k) (h10 : B 10 = 2) (h11 : B 11 = x) : RC M a B := by
  obtain ⟨t1, t2, t3, t4, t5, t6, t7, t8, t9, t10⟩ := h.2.2.2.1
  refine RC_tm h (fun k _ _ x => hB k (by omega) (by omega)) (fun q _ _ => rfl) ?_
  unfold rT rRs
  rw [hB 0 (by decide) (by decide), hB 1 (by decide) (by decide), hB 12 (by decide) (by decide), hB 13 (by decide) (by decide), hB 14 (by decide) (by decide), hB 15 (by decide) (by decide), h10, h11]
  exact ⟨t1, t2, t3, t4, by rw [t5]; rfl, fun y => absurd rfl y, fun _ => ⟨i, t6, t7, t8, t9⟩, t10⟩
theorem rTd_rT (h : RCt rTd M a A) (hB : ∀ k, k ≠ 10 → k ≠ 11 → B k = A k) : RCt rTd M a B := by
  obtain ⟨t1, t2, t3, t4, t5, t6, i, t7, t8, t9, t10⟩ := h.2.2.2.1
  refine RC_tm h (fun k _ _ x => hB k (by omega) (by omega)) (fun q _ _ => rfl) ?_
  unfold rTd rRs
  rw [hB 0 (by decide) (by decide), hB 1 (by decide) (by decide), hB 12 (by decide) (by decide), hB 13 (by decide) (by decide), hB 14 (by decide) (by decide), hB 15 (by decide) (by decide)]
  exact ⟨t1, t2, t3, t4, t5, t6, i, t7, t8, t9, t10⟩
theorem rT_rTs (h : RC M a A) (h10 : A 10 = 2) : ∃ i, RCt (rTs (A 11) i) M a A ∧ M (a + 5) 4 = nI i ∧ i < 3 := by
  obtain ⟨t1, t2, t3, t4, t5, t6, t7, t8⟩ := h.2.2.2.1
  obtain ⟨i, i1, i2, i3, i4⟩ := t7 h10
  rw [h10] at t5
  exact ⟨i, RC_tm h (fun _ _ _ _ => rfl) (fun _ _ _ => rfl) ⟨t1, t2, t3, t4, t5, i1, i2, i3, i4, t8⟩, i3, i1⟩
theorem rTs_begin (h : RC M a A) {i : Nat} (hi : i < 3) (hq : nI i < A 0) (h0 : M (a + 6) i = 0) : RCt (rTs (A 1) i) (wI (wI (wI M (a + 5) 3 0) (a + 5) 4 (nI i)) (a + 5) 5 (A 1)) a A := by
  obtain ⟨t1, t2, t3, t4, t5, t6, t7, t8⟩ := h.2.2.2.1
  refine RC_tm h (fun _ _ _ _ => rfl) (fun q p1 p2 => by rw [wI_ne p1, wI_ne p1, wI_ne p1]) ?_
  refine ⟨by simpa [wI] using t1, by simpa [wI] using t2, by simp [wI], by simpa [wI] using t4, by simp [wI], hi, hq, by simp [wI], ?_, ?_⟩
  · rw [wI_ne (by omega), wI_ne (by omega), wI_ne (by omega)]; exact h0
  · rw [wI_ne (by omega), wI_ne (by omega), wI_ne (by omega)]; exact t8
end
