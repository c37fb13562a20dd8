section
variable {F a K : Nat} {M : zMi} {A : Pg} {T : Pg → Pg → Pg → Prop}
theorem RC_s (h : RCt T M a A) {s k : Nat} (hs : s < 4) (hk : k < 8) : M (a + 17 + s) k = A (59 + 8 * s + k) := h.2.2.2.2.2 s hs k hk
theorem RC_z (h : RCt T M a A) {z k : Nat} (hz : z < 9) (hq : nI z < A 4) (hk : k < 4) : M (a + 8 + z) k = A (23 + 4 * z + k) := h.2.2.2.2.1 z hz hq k hk
theorem c_sail1 (hT : Tu T) (h : RCt T M a A) {s : Nat} (hs : s < 4) : ∃ M', f_X3_sailOneDay F (a + 17 + s) M = some M' ∧ fr a M M' ∧ RCt T M' a (dSail1 s A) := by
  have e5 := RC_s h hs (k := 5) (by decide)
  have e6 := RC_s h hs (k := 6) (by decide)
  have w6 := RC_sh hT hs (k := 6) (v := A (59 + 8 * s + 6) - 1) (by decide) h
  have w5 := fun v => RC_sh hT hs (k := 5) (v := v) (by decide) w6
  have f6 : fr a M (wI M (a + 17 + s) 6 (A (59 + 8 * s + 6) - 1)) := fr_w (by omega)
  have f5 : ∀ v, fr a M (wI (wI M (a + 17 + s) 6 (A (59 + 8 * s + 6) - 1)) (a + 17 + s) 5 v) := fun v => fr_t f6 (fr_w (by omega))
  have r6 : wI M (a + 17 + s) 6 (A (59 + 8 * s + 6) - 1) (a + 17 + s) 6 = A (59 + 8 * s + 6) - 1 := by simp [wI]
  have r5 : wI M (a + 17 + s) 6 (A (59 + 8 * s + 6) - 1) (a + 17 + s) 5 = A (59 + 8 * s + 5) := by rw [← e5]; simp [wI]
  unfold f_X3_sailOneDay f_X3_sailOneDay_16 dSail1
  simp only [bnd_e, e5, e6, r6, r5]
  by_cases h1 : A (59 + 8 * s + 5) = 1
  · simp only [h1, ↓reduceIte, true_or]
    by_cases h3 : A (59 + 8 * s + 6) - 1 = 0
    · simp only [h3, ↓reduceIte] at *
      exact ⟨_, rfl, f5 2, w5 2⟩
    · simp only [h3, ↓reduceIte]
      exact ⟨_, rfl, f6, w6⟩
  · by_cases h2 : A (59 + 8 * s + 5) = 4
    · simp only [h2, ↓reduceIte, or_true, show (4 : Int32) ≠ 1 from by decide]
      by_cases h3 : A (59 + 8 * s + 6) - 1 = 0
      · simp only [h3, ↓reduceIte] at *
        exact ⟨_, rfl, f5 0, w5 0⟩
      · simp only [h3, ↓reduceIte]
        exact ⟨_, rfl, f6, w6⟩
    · simp only [h1, h2, ↓reduceIte, or_self]
      exact ⟨_, rfl, fr_r, h⟩
theorem c_isFin (h : RCt T M a A) : f_X5_isFinished F a M = some (if A 7 < A 4 then 0 else 1) := by
  unfold f_X5_isFinished; rw [h.1.2.2.2.2.1, h.1.1]; split <;> rfl
theorem c_front (h : RCt T M a A) (hF : 5 ≤ F) : f_X5_numberAtFront F a M = some (dFi A) := by
  obtain ⟨m, rfl⟩ : ∃ m, F = m + 5 := ⟨F - 5, by omega⟩
  have e0 : M (a + 17) 5 = A 64 := RC_s h (s := 0) (k := 5) (by decide) (by decide)
  have e1 : M (a + 17 + 1) 5 = A 72 := RC_s h (s := 1) (k := 5) (by decide) (by decide)
  have e2 : M (a + 17 + 2) 5 = A 80 := RC_s h (s := 2) (k := 5) (by decide) (by decide)
  have e3 : M (a + 17 + 3) 5 = A 88 := RC_s h (s := 3) (k := 5) (by decide) (by decide)
  unfold f_X5_numberAtFront dFi dF
  simp only [f_X5_numberAtFront_2, bnd_e]
  simp only [show ((0 : Int32) < 4) = True from by decide, show ((0 : Int32) + 1 < 4) = True from by decide, show ((0 : Int32) + 1 + 1 < 4) = True from by decide, show ((0 : Int32) + 1 + 1 + 1 < 4) = True from by decide, show ((0 : Int32) + 1 + 1 + 1 + 1 < 4) = False from by decide, show inb 0 4 = true from by decide, show inb (0 + 1) 4 = true from by decide, show inb (0 + 1 + 1) 4 = true from by decide, show inb (0 + 1 + 1 + 1) 4 = true from by decide, show ix 0 = 0 from by decide, show ix (0 + 1) = 1 from by decide, show ix (0 + 1 + 1) = 2 from by decide, show ix (0 + 1 + 1 + 1) = 3 from by decide, ↓reduceIte, grd_t, Nat.mul_zero, Nat.mul_one, Nat.add_zero, Nat.one_mul, Nat.add_assoc, Nat.reduceAdd] at *
  rw [e0, e1, e2, e3]
  by_cases d0 : A 64 = 3 <;> by_cases d1 : A 72 = 3 <;> by_cases d2 : A 80 = 3 <;> by_cases d3 : A 88 = 3 <;> simp only [d0, d1, d2, d3, ↓reduceIte] <;> rfl
theorem c_shipS (h : RCt T M a A) (hl : wFl A) {s : Nat} (hs : s < 4) (hq : nI s < A 5) : f_X5_shipNumbered F a (nI s) M = some (some (a + 17 + s)) := by
  unfold f_X5_shipNumbered
  rw [h.1.2.1, if_neg (nI_pos (by omega)), if_pos hq, if_pos (show nI s < 4 from nI_lt (b := 4) hs (by decide)), inbN hs (by decide), grd_t, bnd_e, ixN (by omega), Nat.one_mul]
theorem c_shipN (h : RCt T M a A) {p : Int32} (hq : p < 0 ∨ ¬ p < A 5) : f_X5_shipNumbered F a p M = some none := by
  unfold f_X5_shipNumbered
  rw [h.1.2.1]
  by_cases h0 : p < 0
  · rw [if_pos h0]
  · rw [if_neg h0, if_neg (by rcases hq with x | x; exact absurd x h0; exact x)]
theorem c_zoneS (h : RCt T M a A) {z : Nat} (hz : z < 9) (hq : nI z < A 4) : f_X5_zoneNumbered F a (nI z) M = some (some (a + 8 + z)) := by
  unfold f_X5_zoneNumbered
  rw [h.1.1, if_neg (nI_pos (by omega)), if_pos hq, if_pos (show nI z < 9 from nI_lt (b := 9) hz (by decide)), inbN hz (by decide), grd_t, bnd_e, ixN (by omega), Nat.one_mul]
theorem c_zoneN (h : RCt T M a A) {p : Int32} (hq : p < 0 ∨ ¬ p < A 4) : f_X5_zoneNumbered F a p M = some none := by
  unfold f_X5_zoneNumbered
  rw [h.1.1]
  by_cases h0 : p < 0
  · rw [if_pos h0]
  · rw [if_neg h0, if_neg (by rcases hq with x | x; exact absurd x h0; exact x)]
theorem c_on (h : RCt T M a A) {d w : Nat} (hd : d < 2147483648) (hw : 0 < w) (hw2 : w ≤ 30) (h6 : A 6 = nI w) : f_X8_on F (a + 3) (nI d) M = some (dWav A (nI d)) := by
  have hm : d % w < w := Nat.mod_lt _ hw
  have h0 : nI w ≠ 0 := nI_ne0 hw (by omega)
  unfold f_X8_on dWav
  rw [h.2.2.1.1, h6, if_neg (nI_pos hd), if_pos (show (0 : Int32) < nI w from nI_lt hw (by omega)), bnd_e, pk_rem hd hw (by omega), if_pos (show nI (d % w) < 30 from nI_lt (b := 30) (by omega) (by decide)), inbN (by omega) (by decide), grd_t, ixN (by omega)]
  rw [show a + 3 + 1 = a + 4 from rfl, h.2.2.1.2 _ (by omega) (by rw [h6]; exact nI_lt hm (by omega))]
  simp [h0, grd]
end
