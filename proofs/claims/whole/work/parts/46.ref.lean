section
variable {F r : Nat} {M : zMi} {A : Pg}
def wLay (A : Pg) (s z l c v e : Nat) : Prop := z < 9 ∧ l ≤ 9 ∧ c ≤ 999 ∧ v ≤ 99 ∧ e ≤ 99 ∧ A 7 = nI z ∧ A (23 + 4 * z + 3) = nI l ∧ A (59 + 8 * s + 4) = nI c ∧ A (59 + 8 * s + 1) = nI v ∧ A (23 + 4 * z) - A 8 = nI e
theorem m_lay46 {s z l c v e u : Nat} (hs : s < 4) (hw : wLay A s z l c v e) (hu : u ≤ 99) (hF : 101 ≤ F) :
    f_X11_layOn_46 F r (nI s) (nI (59 + 8 * s)) (nI z) (nI u) (nI z) (pR M r A) = some (if dMost A s z (nI u) = 0 then (4, pR M r (dHome A s (dWay A))) else (0, pR M r (if (dLaid A s (dMost A s z (nI u))) 8 = A (23 + 4 * z) then dNext (dLaid A s (dMost A s z (nI u))) s else dLaid A s (dMost A s z (nI u))))) := by
  obtain ⟨hz, hl, hc, hv, he, h7, h3, h4, h1, hx⟩ := hw
  unfold f_X11_layOn_46
  rw [m_most hs hz hu hl hc h3 h4 hF, cal_s]
  generalize dMost A s z (nI u) = U
  by_cases h0 : U = 0
  · simp only [h0, ↓reduceIte, m_way, cal_s, m_home hs]
  · simp (disch := omega) only [h0, ↓reduceIte, m_need (u := 0) (l := 0) hz, cal_s, bnd_e, ad4, ad7, pR_s, inbN, ixN, grd_t, pR_w, pU_s, pU_n, m_zoneAt, m_isFin, m_way, m_home hs]
    have e7 : ix (A 7) = z := by rw [h7]; exact ixN (by omega)
    unfold dNext dLaid
    simp (disch := omega) only [e7, pU_s, pU_n]
    by_cases k1 : A 8 + U = A (23 + 4 * z) <;> by_cases k2 : A 7 + 1 = A 4 <;> simp [k1, k2]
theorem m_lay {s z l c v e : Nat} (hs : s < 4) (hw : wLay A s z l c v e) (hF : 101 ≤ F) : f_X11_layOn F r (nI s) (pR M r A) = some ((dLay A s).1, pR M r (dLay A s).2) := by
  have hw' := hw
  obtain ⟨hz, hl, hc, hv, he, h7, h3, h4, h1, hx⟩ := hw'
  unfold f_X11_layOn dLay dLayU
  have e7 : ix (A 7) = z := by rw [h7]; exact ixN (by omega)
  simp (disch := omega) only [m_shipAt, cal_s, bnd_e, pR_s, h7, m_zoneAt, inbN, ixN, grd_t, ad1, h1, hx]
  rw [m_lay46 hs hw hv hF, m_lay46 hs hw he hF]
  by_cases k : nI v < nI e
  · simp only [k, ↓reduceIte]
    by_cases k1 : dMost A s z (nI v) = 0
    · simp only [k1, ↓reduceIte]
    · simp only [k1, ↓reduceIte]
  · simp only [k, ↓reduceIte]
    by_cases k1 : dMost A s z (nI e) = 0
    · simp only [k1, ↓reduceIte]
    · simp only [k1, ↓reduceIte]
theorem m_work {s z l c v e d w : Nat} (hs : s < 4) (hw : wLay A s z l c v e) (hd : d < 2147483648) (h3 : A 3 = nI d) (hw0 : 0 < w) (hw2 : w ≤ 30) (h6 : A 6 = nI w) (ht : wTm A) (hF : 101 ≤ F) :
    f_X11_workOn F r (nI s) (pR M r A) = some ((dWork A s).1, pR M r (dWork A s).2) := by
  have hz := hw.1
  have h7 : A 7 = nI z := hw.2.2.2.2.2.1
  unfold f_X11_workOn dWork
  have e7 : ix (A 7) = z := by rw [h7]; exact ixN (by omega)
  rw [show (pR M r A) r 3 = nI d from by rw [pR_s]; exact h3, m_waves hd hw0 hw2 h6, cal_s, e7]
  rw [show nI d = A 3 from h3.symm]
  simp (disch := omega) only [pR_s, bnd_e, pR_w, pU_s, pU_n, m_free (show 4 ≤ F by omega) ht, cal_s, h7, m_zoneAt, m_shipAt, inbN, ixN, grd_t, ad1, ad2, m_lay hs hw hF]
  by_cases k1 : A 10 = 2
  · simp only [k1, ↓reduceIte]
    by_cases k2 : A 11 - 1 = 0 <;> simp only [k2, ↓reduceIte]
  · simp only [k1, ↓reduceIte]
    by_cases k2 : A 10 = 1
    · simp only [k2, ↓reduceIte]
      by_cases k3 : dFree A = 0 <;> by_cases k4 : 3 < dWav A (A 3) <;> by_cases k5 : A 1 - 1 = 0 <;> simp only [k3, k4, k5, or_true, true_or, or_self, ↓reduceIte]
    · simp only [k2, ↓reduceIte]
      by_cases k3 : A 3 < A (23 + 4 * z + 1)
      · simp only [k3, ↓reduceIte]
      · by_cases k4 : A (23 + 4 * z + 2) < A 3
        · simp only [k3, k4, ↓reduceIte]
        · by_cases k5 : A (59 + 8 * s + 2) < dWav A (A 3) <;> simp only [k3, k4, k5, ↓reduceIte]
end
