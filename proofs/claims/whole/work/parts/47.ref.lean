section
variable {F r : Nat} {M : zMi} {A : Pg}
theorem m_in {x y z : Int64} : f_X11_in F x y z M = some (if y ≤ x ∧ x ≤ z then 1 else 0) := by
  unfold f_X11_in lg_cmp
  grind
theorem l_le {x y : Int32} : x.toInt64 ≤ y.toInt64 ↔ x ≤ y := by
  rw [Int64.le_iff_toInt_le, Int32.le_iff_toInt_le, Int32.toInt_toInt64, Int32.toInt_toInt64]
theorem m_in3 {x y z : Int32} : f_X11_in F x.toInt64 y.toInt64 z.toInt64 M = some (if y ≤ x ∧ x ≤ z then 1 else 0) := by
  rw [m_in]; simp only [l_le]
def mTail (F r : Nat) (v1 v2 v3 v4 : Int32) (M : zMi) : Option zMi :=
  if v2 = (-9 : Int32) then (if v1 = (0 : Int32) then f_X11_dayOn_123 F r v2 v3 v4 (6 : Int32) M else f_X11_dayOn_123 F r v2 v3 v4 (0 : Int32) M) else cal (f_X11_workOn F r v2 M) (fun r1 => f_X11_dayOn_123 F r v2 v3 v4 r1.1 r1.2)
theorem m_sumStep {n s : Nat} {v1 v2 v3 v4 : Int32} (hs : s < 4) : f_X11_dayOn_26 F r (n + 1) v1 v2 v3 v4 (nI s) (pR M r A) = if nI s < A 5 then f_X11_dayOn_26 F r n v1 v2 (v3 + (if 0 < A (59 + 8 * s + 5) then A (59 + 8 * s + 3) else 0)) (v4 + (if A (59 + 8 * s + 5) = 2 then A (59 + 8 * s + 3) else 0)) (nI (s + 1)) (pR M r A) else mTail F r v1 v2 v3 v4 (pR M r A) := by
  rw [f_X11_dayOn_26]
  simp (disch := omega) only [f_X11_dayOn_60, m_shipAt, cal_s, bnd_e, ad5, ad3, ad1, pR_s, inbN, ixN, grd_t]
  unfold mTail
  by_cases h1 : 0 < A (59 + 8 * s + 5) <;> by_cases h2 : A (59 + 8 * s + 5) = 2 <;> first | (simp only [if_pos h1, if_pos h2]; done) | (simp only [if_pos h1, if_neg h2]; done) | (simp only [if_neg h1, if_pos h2]; done) | (simp only [if_neg h1, if_neg h2]; done)
theorem m_sumEnd {n : Nat} {v1 v2 v3 v4 x : Int32} (h : ¬ x < A 5) : f_X11_dayOn_26 F r (n + 1) v1 v2 v3 v4 x (pR M r A) = mTail F r v1 v2 v3 v4 (pR M r A) := by
  rw [f_X11_dayOn_26]; unfold mTail; simp only [pR_s]; rw [if_neg h]
theorem m_sums {v1 v2 : Int32} (hF : 5 ≤ F) (h : wFl A) : f_X11_dayOn_26 F r F v1 v2 0 0 0 (pR M r A) = mTail F r v1 v2 (dSea A) (dWait A) (pR M r A) := by
  have a1 := fun q => wFl_a h (s := 1) (k := 5) (by decide) q (by decide)
  have a2 := fun q => wFl_a h (s := 2) (k := 5) (by decide) q (by decide)
  have a3 := fun q => wFl_a h (s := 3) (k := 5) (by decide) q (by decide)
  have c0 : nI 0 < A 5 := by rcases h.1 with h5 | h5 | h5 | h5 <;> rw [h5] <;> decide
  have c4 : ¬ nI 4 < A 5 := by rcases h.1 with h5 | h5 | h5 | h5 <;> rw [h5] <;> decide
  have c12 : nI 2 < A 5 → nI 1 < A 5 := by rcases h.1 with h5 | h5 | h5 | h5 <;> rw [h5] <;> decide
  have c23 : nI 3 < A 5 → nI 2 < A 5 := by rcases h.1 with h5 | h5 | h5 | h5 <;> rw [h5] <;> decide
  have g0 : ∀ x y : Int32, x + (if 0 < (0 : Int32) then y else 0) = x := fun x y => by simp
  have g2 : ∀ x y : Int32, x + (if (0 : Int32) = 2 then y else 0) = x := fun x y => by simp
  obtain ⟨m, hm⟩ : ∃ m, F = m + 5 := ⟨F - 5, by omega⟩
  have hh : ∀ F', F' = F → f_X11_dayOn_26 F r F' v1 v2 0 0 (nI 0) (pR M r A) = mTail F r v1 v2 (dSea A) (dWait A) (pR M r A) := by
    intro F' hF'
    rw [hF', show f_X11_dayOn_26 F r F = f_X11_dayOn_26 F r (m + 5) from by rw [← hm]]
    rw [m_sumStep (by decide), if_pos c0, m_sumStep (by decide), m_sumStep (by decide), m_sumStep (by decide), m_sumEnd c4]
    simp only [Nat.reduceAdd, Nat.reduceMul] at *
    unfold dSea dWait
    by_cases b1 : nI 1 < A 5
    · rw [if_pos b1]
      by_cases b2 : nI 2 < A 5
      · rw [if_pos b2]
        by_cases b3 : nI 3 < A 5
        · rw [if_pos b3]
        · rw [if_neg b3, a3 b3, g0, g2]
      · rw [if_neg b2, a2 b2, a3 (fun x => b2 (c23 x)), g0, g2, g0, g2]
    · rw [if_neg b1, a1 b1, a2 (fun x => b1 (c12 x)), a3 (fun x => b1 (c12 (c23 x))), g0, g2, g0, g2, g0, g2]
  exact hh F rfl
theorem m_rstStep {n t : Nat} {v6 : Int32} (ht : t < 3) (hlt : nI t < A 0) : f_X11_dayOn_222 F r (n + 1) v6 (nI t) (pR M r A) = f_X11_dayOn_222 F r n v6 (nI (t + 1)) (pR M r (dRest1 t A)) := by
  rw [f_X11_dayOn_222]
  have z : ∀ x : Int32, x - 0 = x := fun x => by grind
  simp (disch := omega) only [bnd_e, a13N, ad1, pR_s, inbN, ixN, grd_t, pR_w, hlt, ↓reduceIte, z]
  unfold dRest1
  by_cases h1 : 0 < A (13 + t) <;> simp only [h1, ↓reduceIte]
noncomputable def mEnd (v6 : Int32) (A : Pg) : Pg :=
  let D := if v6 = 0 then A else dRestOn (pU (pU A 10 0) 12 (A 12 + 1))
  pU D 3 (D 3 + 1)
theorem wTm_up {k : Nat} {v : Int32} (h : wTm A) (hk : k ≠ 0 ∧ (k < 13 ∨ 15 < k)) : wTm (pU A k v) := by
  refine ⟨by rw [pU_n (by omega)]; exact h.1, fun t ht => ?_⟩
  rw [pU_n (by omega), pU_n (by omega)]; exact h.2 t ht
theorem wTm_r {t : Nat} (h : wTm A) (ht : t < 3) : wTm (dRest1 t A) := by
  unfold dRest1
  refine ⟨by rw [pU_n (by omega)]; exact h.1, fun j hj => ?_⟩
  rw [pU_n (by omega : 0 ≠ 13 + t)]
  by_cases e : j = t
  · subst e
    rw [pU_s]
    have := h.2 j ht
    grind
  · rw [pU_n (by omega)]; exact h.2 j hj
theorem m_rstEnd {n : Nat} {v6 x : Int32} (hF : 4 ≤ F) (ht : wTm A) (h : ¬ x < A 0) : f_X11_dayOn_222 F r (n + 1) v6 x (pR M r A) = some (pR M r (mEnd v6 A)) := by
  have w : wTm (pU (pU A 10 0) 12 (A 12 + 1)) := wTm_up (wTm_up ht (by decide)) (by decide)
  rw [f_X11_dayOn_222]; unfold mEnd f_X11_dayOn_283
  simp (disch := decide) only [pR_s, h, ↓reduceIte, bnd_e, pR_w, pU_n]
  by_cases h6 : v6 = 0
  · simp only [h6, ↓reduceIte]
  · simp only [h6, ↓reduceIte, m_restOn hF w, cal_s, pR_s, pR_w]
theorem dRest1_z {t : Nat} (h : A (13 + t) = 0) : dRest1 t A = A := by
  unfold dRest1; rw [h]; simp only [Int32.lt_irrefl, ↓reduceIte]; rw [← h]; exact pU_i
theorem dRest1_n {t k : Nat} (h : k ≠ 13 + t) : dRest1 t A k = A k := by unfold dRest1; rw [pU_n h]
theorem m_rst {v6 : Int32} (hF : 4 ≤ F) (h : wTm A) : f_X11_dayOn_222 F r F v6 0 (pR M r A) = some (pR M r (mEnd v6 (dRest A))) := by
  have a1 := (h.2 1 (by decide)).2
  have a2 := (h.2 2 (by decide)).2
  have c0 : nI 0 < A 0 := by rcases h.1 with h5 | h5 | h5 <;> rw [h5] <;> decide
  have c3 : ¬ nI 3 < A 0 := by rcases h.1 with h5 | h5 | h5 <;> rw [h5] <;> decide
  have c12 : nI 2 < A 0 → nI 1 < A 0 := by rcases h.1 with h5 | h5 | h5 <;> rw [h5] <;> decide
  have d0 : ∀ (t : Nat) (B : Pg), dRest1 t B 0 = B 0 := fun t B => dRest1_n (by omega)
  obtain ⟨m, hm⟩ : ∃ m, F = m + 4 := ⟨F - 4, by omega⟩
  have w1 : wTm (dRest1 0 A) := wTm_r h (by decide)
  have w2 : wTm (dRest1 1 (dRest1 0 A)) := wTm_r w1 (by decide)
  have w3 : wTm (dRest1 2 (dRest1 1 (dRest1 0 A))) := wTm_r w2 (by decide)
  have hh : ∀ F', F' = F → f_X11_dayOn_222 F r F' v6 (nI 0) (pR M r A) = some (pR M r (mEnd v6 (dRest A))) := by
    intro F' hF'
    rw [hF', show f_X11_dayOn_222 F r F = f_X11_dayOn_222 F r (m + 4) from by rw [← hm]]
    unfold dRest
    rw [m_rstStep (by decide) c0]
    by_cases b1 : nI 1 < A 0
    · rw [m_rstStep (by decide) (by rw [d0]; exact b1)]
      by_cases b2 : nI 2 < A 0
      · rw [m_rstStep (by decide) (by rw [d0, d0]; exact b2), m_rstEnd hF w3 (by rw [d0, d0, d0]; exact c3)]
      · rw [m_rstEnd hF w2 (by rw [d0, d0]; exact b2)]
        rw [dRest1_z (t := 2) ((dRest1_n (by decide)).trans ((dRest1_n (by decide)).trans (a2 b2)))]
    · rw [m_rstEnd hF w1 (by rw [d0]; exact b1)]
      rw [dRest1_z (t := 1) ((dRest1_n (by decide)).trans (a1 b1)), dRest1_z (t := 2) ((dRest1_n (by decide)).trans (a2 (fun x => b1 (c12 x))))]
  exact hh F rfl
end
