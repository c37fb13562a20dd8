section
variable {F r : Nat} {M : zMi} {A : Pg}
def wFl (A : Pg) : Prop := (A 5 = 1 ∨ A 5 = 2 ∨ A 5 = 3 ∨ A 5 = 4) ∧ ∀ s, s < 4 → ¬ nI s < A 5 → ∀ k, k < 8 → A (59 + 8 * s + k) = 0
theorem dSail1_z {s : Nat} (h : A (59 + 8 * s + 5) = 0) : dSail1 s A = A := by unfold dSail1; simp [h]
theorem m_sailEnd {n s : Nat} (h : ¬ nI s < A 5) : f_X11_sailOn_2 F r (n + 1) (nI s) (pR M r A) = some (pR M r A) := by
  rw [f_X11_sailOn_2]; simp only [pR_s]; rw [if_neg h]
theorem m_sailGo {n s : Nat} (hs : s < 4) (h : nI s < A 5) : f_X11_sailOn_2 F r (n + 1) (nI s) (pR M r A) = f_X11_sailOn_2 F r n (nI (s + 1)) (pR M r (dSail1 s A)) := by
  rw [m_sailStep hs, if_pos h]
theorem wFl_a {A : Pg} (h : wFl A) {s k : Nat} (hs : s < 4) (h5 : ¬ nI s < A 5) (hk : k < 8) : A (59 + 8 * s + k) = 0 := h.2 s hs h5 k hk
theorem m_sail (hF : 5 ≤ F) (h : wFl A) : f_X11_sailOn F r (pR M r A) = some (pR M r (dSail A)) := by
  obtain ⟨m, rfl⟩ : ∃ m, F = m + 5 := ⟨F - 5, by omega⟩
  unfold f_X11_sailOn dSail
  rw [show (0:Int32) = nI 0 from rfl]
  have e1 : ∀ B : Pg, dSail1 1 B 5 = B 5 := fun B => dSail1_n (by decide) (by decide)
  have e0 : ∀ B : Pg, dSail1 0 B 5 = B 5 := fun B => dSail1_n (by decide) (by decide)
  have e2 : ∀ B : Pg, dSail1 2 B 5 = B 5 := fun B => dSail1_n (by decide) (by decide)
  have e3 : ∀ B : Pg, dSail1 3 B 5 = B 5 := fun B => dSail1_n (by decide) (by decide)
  rcases h.1 with h5 | h5 | h5 | h5
  · have a1 := wFl_a h (s := 1) (k := 5) (by decide) (by rw [h5]; decide) (by decide)
    have a2 := wFl_a h (s := 2) (k := 5) (by decide) (by rw [h5]; decide) (by decide)
    have a3 := wFl_a h (s := 3) (k := 5) (by decide) (by rw [h5]; decide) (by decide)
    rw [m_sailGo (by decide) (by rw [h5]; decide), m_sailEnd (by rw [e0, h5]; decide)]
    rw [dSail1_z (s := 1) ((dSail1_n (by decide) (by decide)).trans a1), dSail1_z (s := 2) ((dSail1_n (by decide) (by decide)).trans a2), dSail1_z (s := 3) ((dSail1_n (by decide) (by decide)).trans a3)]
  · have a2 := wFl_a h (s := 2) (k := 5) (by decide) (by rw [h5]; decide) (by decide)
    have a3 := wFl_a h (s := 3) (k := 5) (by decide) (by rw [h5]; decide) (by decide)
    rw [m_sailGo (by decide) (by rw [h5]; decide), m_sailGo (by decide) (by rw [e0, h5]; decide), m_sailEnd (by rw [e1, e0, h5]; decide)]
    rw [dSail1_z (s := 2) ((dSail1_n (by decide) (by decide)).trans ((dSail1_n (by decide) (by decide)).trans a2)), dSail1_z (s := 3) ((dSail1_n (by decide) (by decide)).trans ((dSail1_n (by decide) (by decide)).trans a3))]
  · have a3 := wFl_a h (s := 3) (k := 5) (by decide) (by rw [h5]; decide) (by decide)
    rw [m_sailGo (by decide) (by rw [h5]; decide), m_sailGo (by decide) (by rw [e0, h5]; decide), m_sailGo (by decide) (by rw [e1, e0, h5]; decide), m_sailEnd (by rw [e2, e1, e0, h5]; decide)]
    rw [dSail1_z (s := 3) ((dSail1_n (by decide) (by decide)).trans ((dSail1_n (by decide) (by decide)).trans ((dSail1_n (by decide) (by decide)).trans a3)))]
  · rw [m_sailGo (by decide) (by rw [h5]; decide), m_sailGo (by decide) (by rw [e0, h5]; decide), m_sailGo (by decide) (by rw [e1, e0, h5]; decide), m_sailGo (by decide) (by rw [e2, e1, e0, h5]; decide), m_sailEnd (by rw [e3, e2, e1, e0, h5]; decide)]
/-- the ship at the front -/
theorem m_frontStep {n s : Nat} (hs : s < 4) : f_X11_frontShip_2 F r (n + 1) (nI s) (pR M r A) = if nI s < A 5 then (if A (59 + 8 * s + 5) = 3 then some (nI s) else f_X11_frontShip_2 F r n (nI (s + 1)) (pR M r A)) else some (-9) := by
  rw [f_X11_frontShip_2]
  simp (disch := omega) only [m_shipAt, cal_s, ad1, ad5, pR_s, inbN, ixN, grd_t]
theorem m_frontEnd {n s : Nat} (h : ¬ nI s < A 5) : f_X11_frontShip_2 F r (n + 1) (nI s) (pR M r A) = some (-9) := by
  rw [f_X11_frontShip_2]; simp only [pR_s]; rw [if_neg h]
theorem m_front (hF : 5 ≤ F) (h : wFl A) : f_X11_frontShip F r (pR M r A) = some (dFi A) := by
  obtain ⟨m, rfl⟩ : ∃ m, F = m + 5 := ⟨F - 5, by omega⟩
  unfold f_X11_frontShip dFi dF
  rw [show (0:Int32) = nI 0 from rfl]
  have a0 := wFl_a h (s := 0) (k := 5) (by decide)
  have a1 := wFl_a h (s := 1) (k := 5) (by decide)
  have a2 := wFl_a h (s := 2) (k := 5) (by decide)
  have a3 := wFl_a h (s := 3) (k := 5) (by decide)
  have c0 : nI 0 < A 5 := by rcases h.1 with h5 | h5 | h5 | h5 <;> rw [h5] <;> decide
  have c4 : ¬ nI 4 < A 5 := by rcases h.1 with h5 | h5 | h5 | h5 <;> rw [h5] <;> decide
  rw [m_frontStep (by decide), m_frontStep (by decide), m_frontStep (by decide), m_frontStep (by decide), m_frontEnd c4]
  simp only [Nat.reduceAdd, Nat.reduceMul] at *
  have c12 : nI 2 < A 5 → nI 1 < A 5 := by rcases h.1 with h5 | h5 | h5 | h5 <;> rw [h5] <;> decide
  have c23 : nI 3 < A 5 → nI 2 < A 5 := by rcases h.1 with h5 | h5 | h5 | h5 <;> rw [h5] <;> decide
  have z3 : (0 : Int32) ≠ 3 := by decide
  by_cases b1 : nI 1 < A 5 <;> by_cases b2 : nI 2 < A 5 <;> by_cases b3 : nI 3 < A 5 <;> by_cases d0 : A 64 = 3 <;> by_cases d1 : A 72 = 3 <;> by_cases d2 : A 80 = 3 <;> by_cases d3 : A 88 = 3 <;> first | grind | simp_all
end
