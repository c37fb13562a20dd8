section
variable {F x b o K len : Nat} {M N : zMi} {X : zMl} {xs : Nat → Int32}
theorem case_doneAfter {k : Int32 → zMi → zMl → Option Int32} {v4 : Int32} (h : INV K M x b) (hb : b = x + 386) (hK : K < 700000000) (hF : 1573 < F) (hg : inb (v4 + 1) len = true) : goes K x b k v4 (f_L_law_1338 F len xs x b o k v4 M X) := by
  generalize hp : xs (ix (v4 + (1 : Int32))) = p
  have hA := h.2.2.1
  unfold f_L_law_1338 f_L_doneAfter f_X10_doneAfter f_X11_doneAfter f_X11_doneAfter_17
  rw [hg, grd_t, hp, c_exZ h.2.1 hA]
  by_cases c : 0 ≤ p ∧ p ≤ M (b + 3) 4 - 1
  · obtain ⟨M1, T, a1, a2, a3, a4, a5, a6⟩ := INV_tr (F := F) h hb (by omega) (by omega)
    obtain ⟨M2, j, b1, b2, -, -, -⟩ := c_until (F := F) (a := x + 24) (z := p) (j := 400) (m := 0) (fu := F) (by omega) a3 a4 (by omega) (by omega) (by omega)
    obtain ⟨d1, d2, d3⟩ := a6 M2 b2
    obtain ⟨Y, m⟩ := m_until (F := F) (b := b) (M := wI M2 b 0 0) (z := p) (j := 400) (m := 0) (fu := F) (A := T) (by omega) a4 (by omega) (by omega) (by omega)
    unfold f_X5_daysUntilDone f_X11_doneOf
    rw [if_pos c, calp_r, a1, cal_s, show f_X5_daysUntilDone_2 F (x + 24) p F (0 : Int32) M1 = f_X5_daysUntilDone_2 F (x + 24) p F (nI 0) M1 from rfl, b1, cal_s, calw_r, bnd_e, cal_s, grd_t]
    dsimp only
    rw [m_isZone, cal_s, if_pos (show 0 ≤ p ∧ p ≤ M2 (b + 3) 4 - 1 by rw [d2]; exact c), if_neg (show ¬ (1 : Int32) = 0 by decide), m_refused, cal_s, if_neg (show ¬ (0 : Int32) < 0 by decide), if_pos rfl, d1, cal_s, show f_X11_doneOf_2 F b p F (0 : Int32) (pR (wI M2 b 0 0) (b + 4) T) = f_X11_doneOf_2 F b p F (nI 0) (pR (wI M2 b 0 0) (b + 4) T) from rfl, m, cal_s, cal_s]
    exact ⟨_, _, law_fin (by dsimp only; rw [pR_n (by omega)]; simp [wI]) (fun _ => by simp [wL]), d3 _⟩
  · rw [if_neg c, calp_l, calw_l, if_pos rfl, cal_s, grd_t]
    dsimp only
    rw [m_isZone, cal_s, if_neg c, if_pos rfl, m_refused, cal_s, if_pos (show (0 : Int32) < 1 by decide), if_neg (show ¬ (1 : Int32) = 0 by decide), cal_s]
    exact ⟨wI M b 0 1, X, law_fin (v := 0) (by simp [wI]) (fun q => absurd q (by decide)), INV_0 h hb (by omega)⟩
end
