section
variable {F a b K : Nat} {M : zMi} {A B C : Pg} {T : Pg → Pg → Pg → Prop}
noncomputable def bx (A : Pg) (s : Nat) : Int32 := if A (59 + 8 * s + 5) = 0 then 0 else A (59 + 8 * s + 3)
noncomputable def by' (w : Bool) (A : Pg) (s : Nat) : Int32 := if A (59 + 8 * s + 5) = 2 then A (59 + 8 * s + 3) else if A (59 + 8 * s + 5) = 3 then (if w = true then A (59 + 8 * s + 3) else 0) else 0
noncomputable def bk1 (w : Bool) (s : Nat) (A : Pg) : Pg := pU (pU A 19 (A 19 + bx A s)) 20 (A 20 + by' w A s)
theorem bk1_n {w : Bool} {s k : Nat} (h1 : k ≠ 19) (h2 : k ≠ 20) : bk1 w s A k = A k := by unfold bk1; rw [pU_n h2, pU_n h1]
theorem bk1_19 {w : Bool} {s : Nat} : bk1 w s A 19 = A 19 + bx A s := by unfold bk1; rw [pU_n (by decide), pU_s]
theorem bk1_20 {w : Bool} {s : Nat} : bk1 w s A 20 = A 20 + by' w A s := by unfold bk1; rw [pU_s]
theorem bx_b {w : Bool} {s t : Nat} : bx (bk1 w t A) s = bx A s := by unfold bx; rw [bk1_n (by omega) (by omega), bk1_n (by omega) (by omega)]
theorem by_b {w : Bool} {s t : Nat} : by' w (bk1 w t A) s = by' w A s := by unfold by'; rw [bk1_n (by omega) (by omega), bk1_n (by omega) (by omega)]
theorem pU_0 {i : Nat} : pU A i (A i + 0) = A := by rw [show A i + 0 = A i from by grind]; exact pU_i
theorem c_bkStep (hT : Tu T) (h : RCt T M a A) {w : Bool} {s n : Nat} (hs : s < 4) :
    ∃ M', f_X5_bookDay_49 F a (n + 1) (if w = true then 1 else 0) (nI s) M = f_X5_bookDay_49 F a n (if w = true then 1 else 0) (nI (s + 1)) M' ∧ fr a M M' ∧ RCt T M' a (bk1 w s A) := by
  have r5 := RC_s h hs (k := 5) (by decide)
  have r3 := RC_s h hs (k := 3) (by decide)
  have e19 : M (a + 7) 3 = A 19 := h.2.1.2.2.2.1
  have e20 : M (a + 7) 4 = A 20 := h.2.1.2.2.2.2.1
  rw [f_X5_bookDay_49, if_pos (show nI s < 4 from nI_lt (b := 4) hs (by decide)), inbN hs (by decide), grd_t, ixN (by omega), Nat.one_mul, show a + 2 + 15 + s = a + 17 + s from rfl, bnd_e, r5, r3, e19, bnd_e]
  have key : ∀ M1 : zMi, RCt T M1 a (pU A 19 (A 19 + bx A s)) → fr a M M1 → ∃ M', f_X5_bookDay_86 F a (f_X5_bookDay_49 F a n) (if w = true then 1 else 0) (nI s) (a + 17 + s) M1 = f_X5_bookDay_49 F a n (if w = true then 1 else 0) (nI (s + 1)) M' ∧ fr a M M' ∧ RCt T M' a (bk1 w s A) := by
    intro M1 h1 f1
    have p5 : M1 (a + 17 + s) 5 = A (59 + 8 * s + 5) := by rw [RC_s h1 hs (by decide), pU_n (by omega)]
    have p3 : M1 (a + 17 + s) 3 = A (59 + 8 * s + 3) := by rw [RC_s h1 hs (by decide), pU_n (by omega)]
    have q20 : M1 (a + 7) 4 = A 20 := by rw [h1.2.1.2.2.2.2.1, pU_n (by decide)]
    have hw := RC_l hT (j := 4) (v := A 20 + A (59 + 8 * s + 3)) (by decide) h1
    have fw : fr a M (wI M1 (a + 7) 4 (A 20 + A (59 + 8 * s + 3))) := fr_t f1 (fr_w (by omega))
    have hz : pU (pU A 19 (A 19 + bx A s)) 20 (A 20 + 0) = pU A 19 (A 19 + bx A s) := by
      have := pU_0 (A := pU A 19 (A 19 + bx A s)) (i := 20)
      rw [pU_n (by decide : 20 ≠ 19)] at this
      exact this
    unfold f_X5_bookDay_86 f_X5_bookDay_108 bk1 by'
    rw [p5, p3, q20, bnd_e, ad1]
    by_cases k2 : A (59 + 8 * s + 5) = 2
    · rw [if_pos k2, if_pos k2]
      exact ⟨_, rfl, fw, hw⟩
    · rw [if_neg k2, if_neg k2]
      by_cases k3 : A (59 + 8 * s + 5) = 3
      · rw [if_pos k3, if_pos k3]
        cases w with
        | true =>
          rw [if_neg (show ¬ (if true = true then (1 : Int32) else 0) = 0 by decide), if_pos rfl]
          exact ⟨_, rfl, fw, hw⟩
        | false =>
          simp only [Bool.false_eq_true, ↓reduceIte, hz]
          exact ⟨_, rfl, f1, h1⟩
      · rw [if_neg k3, if_neg k3, hz]
        exact ⟨_, rfl, f1, h1⟩
  by_cases k0 : A (59 + 8 * s + 5) = 0
  · rw [if_pos k0]
    refine key M ?_ fr_r
    unfold bx; rw [if_pos k0, pU_0]; exact h
  · rw [if_neg k0]
    refine key _ ?_ (fr_w (by omega))
    unfold bx; rw [if_neg k0]
    exact RC_l hT (j := 3) (by decide) h
theorem c_book (hT : Tu T) (h : RCt T M a A) (hF : 5 ≤ F) : ∃ M', f_X5_bookDay F a M = some M' ∧ fr a M M' ∧ RCt T M' a (bk1 (dWts (A 9)) 3 (bk1 (dWts (A 9)) 2 (bk1 (dWts (A 9)) 1 (bk1 (dWts (A 9)) 0 A)))) := by
  have key : ∀ w : Bool, ∃ M', f_X5_bookDay_37 F a (if w = true then 1 else 0) M = some M' ∧ fr a M M' ∧ RCt T M' a (bk1 w 3 (bk1 w 2 (bk1 w 1 (bk1 w 0 A)))) := by
    intro w
    obtain ⟨m, hm⟩ : ∃ m, F = m + 5 := ⟨F - 5, by omega⟩
    have hh : ∀ F', F' = F → ∃ M', f_X5_bookDay_49 F a F' (if w = true then 1 else 0) (nI 0) M = some M' ∧ fr a M M' ∧ RCt T M' a (bk1 w 3 (bk1 w 2 (bk1 w 1 (bk1 w 0 A)))) := by
      intro F' hF'
      rw [hF', show f_X5_bookDay_49 F a F = f_X5_bookDay_49 F a (m + 5) from by rw [← hm]]
      obtain ⟨M1, a1, b1, c1⟩ := c_bkStep (F := F) (w := w) (n := m + 4) hT h (s := 0) (by decide)
      obtain ⟨M2, a2, b2, c2⟩ := c_bkStep (F := F) (w := w) (n := m + 3) hT c1 (s := 1) (by decide)
      obtain ⟨M3, a3, b3, c3⟩ := c_bkStep (F := F) (w := w) (n := m + 2) hT c2 (s := 2) (by decide)
      obtain ⟨M4, a4, b4, c4⟩ := c_bkStep (F := F) (w := w) (n := m + 1) hT c3 (s := 3) (by decide)
      rw [a1, a2, a3, a4, f_X5_bookDay_49, if_neg (show ¬ nI (3 + 1) < (4 : Int32) by decide)]
      exact ⟨M4, rfl, fr_t b1 (fr_t b2 (fr_t b3 b4)), c4⟩
    exact hh F rfl
  have e9 : M a 11 = A 9 := h.1.2.2.2.2.2.2
  have kt : dWts (A 9) = true → ∃ M', f_X5_bookDay_37 F a 1 M = some M' ∧ fr a M M' ∧ RCt T M' a (bk1 (dWts (A 9)) 3 (bk1 (dWts (A 9)) 2 (bk1 (dWts (A 9)) 1 (bk1 (dWts (A 9)) 0 A)))) := fun x => by rw [x]; exact key true
  have kf : dWts (A 9) = false → ∃ M', f_X5_bookDay_37 F a 0 M = some M' ∧ fr a M M' ∧ RCt T M' a (bk1 (dWts (A 9)) 3 (bk1 (dWts (A 9)) 2 (bk1 (dWts (A 9)) 1 (bk1 (dWts (A 9)) 0 A)))) := fun x => by rw [x]; exact key false
  unfold f_X5_bookDay
  rw [e9]
  by_cases k1 : A 9 = 1
  · rw [if_pos k1]; exact kt (by rw [k1]; rfl)
  · rw [if_neg k1]
    by_cases k2 : A 9 = 2
    · rw [if_pos k2]; exact kt (by rw [k2]; rfl)
    · rw [if_neg k2]
      by_cases k3 : A 9 = 3
      · rw [if_pos k3]; exact kt (by rw [k3]; rfl)
      · rw [if_neg k3]
        by_cases k5 : A 9 = 5
        · rw [if_pos k5]; exact kt (by rw [k5]; rfl)
        · rw [if_neg k5]
          exact kf (by unfold dWts; simp [k1, k2, k3, k5])
/-- the sums over the ships, behind the work and before it -/
theorem bk_4 {w : Bool} {f : Nat} (hr : ∀ s, s < 4 → C (59 + 8 * s + 3) = B (59 + 8 * s + 3)) (hn : ∀ s, s < 4 → s ≠ f → C (59 + 8 * s + 5) = B (59 + 8 * s + 5)) (hB : ∀ s, s < 4 → 0 ≤ B (59 + 8 * s + 5)) (ho : ∀ s, s < 4 → s ≠ f → B (59 + 8 * s + 5) ≠ 3) (hf : f < 4 → B (59 + 8 * f + 5) = 3 ∧ (C (59 + 8 * f + 5) = 3 ∨ (C (59 + 8 * f + 5) = 4 ∧ w = false))) (hw : ¬ f < 4 → w = false) :
    bk1 w 3 (bk1 w 2 (bk1 w 1 (bk1 w 0 C))) = bk (dSea B) (dWait B) f w C := by
  have x : ∀ s, s < 4 → bx C s = (if 0 < B (59 + 8 * s + 5) then B (59 + 8 * s + 3) else 0) := by
    intro s hs
    unfold bx
    rw [hr s hs]
    by_cases e : s = f
    · subst e
      obtain ⟨h1, h2⟩ := hf hs
      rcases h2 with h2 | ⟨h2, -⟩
      · rw [h2, h1, if_neg (show ¬ (3 : Int32) = 0 by decide), if_pos (show (0 : Int32) < 3 by decide)]
      · rw [h2, h1, if_neg (show ¬ (4 : Int32) = 0 by decide), if_pos (show (0 : Int32) < 3 by decide)]
    · rw [hn s hs e]
      have := hB s hs
      by_cases k : B (59 + 8 * s + 5) = 0
      · rw [if_pos k, k]; rfl
      · rw [if_neg k, if_pos (by grind)]
  have y : ∀ s, s < 4 → by' w C s = (if B (59 + 8 * s + 5) = 2 then B (59 + 8 * s + 3) else 0) + (if s = f then (if w = true then C (59 + 8 * f + 3) else 0) else 0) := by
    intro s hs
    unfold by'
    rw [hr s hs]
    by_cases e : s = f
    · subst e
      obtain ⟨h1, h2⟩ := hf hs
      rw [h1, if_neg (show ¬ (3 : Int32) = 2 by decide), if_pos rfl, hr s hs]
      rcases h2 with h2 | ⟨h2, h3⟩
      · rw [h2, if_neg (by decide), if_pos rfl]; grind
      · rw [h2, h3]; simp
    · rw [hn s hs e, if_neg (ho s hs e), if_neg e]; grind
  have x0 : bx C 0 = _ := x 0 (by decide)
  have x1 : bx C 1 = _ := x 1 (by decide)
  have x2 : bx C 2 = _ := x 2 (by decide)
  have x3 : bx C 3 = _ := x 3 (by decide)
  have y0 : by' w C 0 = _ := y 0 (by decide)
  have y1 : by' w C 1 = _ := y 1 (by decide)
  have y2 : by' w C 2 = _ := y 2 (by decide)
  have y3 : by' w C 3 = _ := y 3 (by decide)
  simp only [Nat.reduceAdd, Nat.reduceMul] at x0 x1 x2 x3 y0 y1 y2 y3
  funext k
  by_cases k20 : k = 20
  · subst k20
    rw [bk1_20, bk1_20, bk1_20, bk1_20]
    simp only [by_b]
    rw [y0, y1, y2, y3]
    unfold bk dWait
    (try dsimp only)
    rw [pU_s, pU_n (by decide), pU_n (by omega)]
    have hW : ¬ f < 4 → (if w = true then C (59 + 8 * f + 3) else 0) = 0 := fun q => by rw [hw q]; rfl
    generalize (if w = true then C (59 + 8 * f + 3) else 0) = W at *
    by_cases f4 : f < 4
    · have c : f = 0 ∨ f = 1 ∨ f = 2 ∨ f = 3 := by omega
      rcases c with rfl | rfl | rfl | rfl <;> simp only [Nat.reduceEqDiff, ↓reduceIte] <;> grind
    · rw [hW f4]
      simp only [ite_self]
      grind
  · by_cases k19 : k = 19
    · subst k19
      rw [bk1_19, bk1_19, bk1_19, bk1_19]
      simp only [bx_b]
      rw [x0, x1, x2, x3]
      unfold bk dSea
      (try dsimp only)
      rw [pU_n (by decide : 19 ≠ 20), pU_s]
      grind
    · rw [bk1_n k19 k20, bk1_n k19 k20, bk1_n k19 k20, bk1_n k19 k20, bk_n k19 k20]
end
