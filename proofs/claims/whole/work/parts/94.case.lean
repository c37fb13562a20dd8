section
variable {F x b o K len : Nat} {M N : zMi} {X : zMl} {xs : Nat → Int32}
theorem m_in099 {p : Int32} : f_X11_in F p.toInt64 (0 : Int64) (99 : Int64) M = some (if 0 ≤ p ∧ p ≤ 99 then 1 else 0) := m_in3 (y := 0) (z := 99)
theorem case_needs {k : Int32 → zMi → zMl → Option Int32} {v4 : Int32} (h : INV K M x b) (hb : b = x + 386) (hK : K < 700000000) (hg1 : inb (v4 + 1) len = true) (hg2 : inb (v4 + 2) len = true) : goes K x b k v4 (f_L_law_1066 F len xs x b o k v4 M X) := by
  generalize hp : xs (ix (v4 + (1 : Int32))) = p
  generalize hu : xs (ix (v4 + (2 : Int32))) = u
  have hA := h.2.2.1
  have q4 := hA.2.2.1.2.2.2.1
  unfold f_L_law_1066 f_L_needs f_X10_needs f_X11_needs f_X11_needs_33
  rw [hg1, hg2, grd_t, grd_t, hp, hu, c_exZ h.2.1 hA]
  by_cases c : 0 ≤ p ∧ p ≤ M (b + 3) 4 - 1
  · obtain ⟨z, hz, rfl⟩ := exN (n := 8) (x := p) c.1 (by show p ≤ 8; grind) (by decide)
    have hz4 : nI z < M (b + 3) 4 := by grind
    rw [if_pos c, calp_r, c_rr]
    by_cases c2 : 0 ≤ u ∧ u ≤ 99
    · have e : f_X9_cableFor F (x + 3 + 8 + ix (nI z)) u M = some (dNeed (M (b + 3)) z u) := by
        unfold f_X9_cableFor dNeed
        rw [ixN (by omega), RC_z h.2.1 (by omega) hz4 (by decide)]
      have mn := m_need (F := F) (r := b + 3) (M := wI M b 0 0) (A := M (b + 3)) (z := z) (u := 0) (l := 0) (p := u) (by omega)
      rw [show pR (wI M b 0 0) (b + 3) (M (b + 3)) = wI M b 0 0 from by
        have : wI M b 0 0 (b + 3) = M (b + 3) := wI_ne (by omega)
        rw [← this]; exact pR_i] at mn
      rw [if_pos c2, calp_r, e, cal_s, calp_r, bnd_e, cal_s, grd_t, grd_t]
      dsimp only
      rw [m_isZone, cal_s, if_pos c, if_neg (show ¬ (1 : Int32) = 0 by decide), m_in099, cal_s, if_pos c2, if_neg (show ¬ (1 : Int32) = 0 by decide), m_refused, cal_s, if_neg (show ¬ (0 : Int32) < 0 by decide), if_pos rfl, mn, cal_s, cal_s]
      exact ⟨_, _, law_fin (by simp [wI]) (fun _ => by simp [wL]), INV_0 h hb (by omega)⟩
    · rw [if_neg c2, calp_l, calp_l, if_neg (show ¬ (1 : Nat) = 3 by decide), if_pos rfl, cal_s, grd_t, grd_t]
      dsimp only
      rw [m_isZone, cal_s, if_pos c, if_neg (show ¬ (1 : Int32) = 0 by decide), m_in099, cal_s, if_neg c2, if_pos rfl, m_refused, cal_s, if_pos (show (0 : Int32) < 2 by decide), if_neg (show ¬ (1 : Int32) = 0 by decide), cal_s]
      exact ⟨wI M b 0 2, X, law_fin (v := 0) (by simp [wI]) (fun q => absurd q (by decide)), INV_0 h hb (by omega)⟩
  · rw [if_neg c, calp_l, calp_l, if_pos rfl, cal_s, grd_t, grd_t]
    dsimp only
    rw [m_isZone, cal_s, if_neg c, if_pos rfl, m_refused, cal_s, if_pos (show (0 : Int32) < 1 by decide), if_neg (show ¬ (1 : Int32) = 0 by decide), cal_s]
    exact ⟨wI M b 0 1, X, law_fin (v := 0) (by simp [wI]) (fun q => absurd q (by decide)), INV_0 h hb (by omega)⟩
end
