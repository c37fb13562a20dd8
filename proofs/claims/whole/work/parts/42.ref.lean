section
variable {F r : Nat} {M : zMi} {A : Pg}
theorem m_shipAt {s : Nat} : f_X11_shipAt F (nI s) M = some (nI (59 + 8 * s)) := by unfold f_X11_shipAt; rw [shN]
theorem m_zoneAt {z : Nat} : f_X11_zoneAt F (nI z) M = some (nI (23 + 4 * z)) := by unfold f_X11_zoneAt; rw [znN]
theorem m_isFin : f_X11_isFinished F r (pR M r A) = some (if A 7 = A 4 then 1 else 0) := by
  unfold f_X11_isFinished; rw [pR_s]; split <;> rfl
theorem m_sailStep {n s : Nat} (hs : s < 4) : f_X11_sailOn_2 F r (n + 1) (nI s) (pR M r A) = if nI s < A 5 then f_X11_sailOn_2 F r n (nI (s + 1)) (pR M r (dSail1 s A)) else some (pR M r A) := by
  rw [f_X11_sailOn_2]
  simp (disch := omega) only [f_X11_sailOn_32, m_shipAt, cal_s, bnd_e, ad1, ad5, ad6, pR_s, inbN, ixN, grd_t, pR_w, pU_s, pU_n]
  unfold dSail1
  by_cases h1 : A (59 + 8 * s + 5) = 1 <;> by_cases h2 : A (59 + 8 * s + 5) = 4 <;> by_cases h3 : A (59 + 8 * s + 6) - 1 = 0 <;> simp_all
theorem dSail1_n {s k : Nat} (h1 : k ≠ 59 + 8 * s + 5) (h2 : k ≠ 59 + 8 * s + 6) : dSail1 s A k = A k := by
  unfold dSail1; split
  · split
    · split <;> simp (disch := omega) only [pU_n]
    · simp (disch := omega) only [pU_n]
  · rfl
end
