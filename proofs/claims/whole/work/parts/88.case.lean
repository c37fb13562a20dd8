section
variable {F x b o K len : Nat} {M N : zMi} {X : zMl} {xs : Nat → Int32}
theorem m_in199 {p : Int32} : f_X11_in F p.toInt64 (1 : Int64) (99 : Int64) M = some (if 1 ≤ p ∧ p ≤ 99 then 1 else 0) := m_in3 (y := 1) (z := 99)
theorem case_pass {k : Int32 → zMi → zMl → Option Int32} {v4 : Int32} (h : INV K M x b) (hb : b = x + 386) (hK : K < 700000000) (hF : 1573 < F) (hg : inb (v4 + 1) len = true) : goes K x b k v4 (f_L_law_966 F len xs x b o k v4 M X) := by
  generalize hp : xs (ix (v4 + (1 : Int32))) = p
  have hA := h.2.2.1
  unfold f_L_law_966 f_L_pass f_X10_pass f_X11_pass f_X11_pass_18
  rw [hg, grd_t, hp, c_rr]
  by_cases c : 1 ≤ p ∧ p ≤ 99
  · obtain ⟨d, hd, rfl⟩ := exN (n := 99) (x := p) (by grind) c.2 (by decide)
    obtain ⟨M1, a1, a2, a3⟩ := INV_act (F := F) h hb (by omega) hF
    obtain ⟨M2, b1, b2, b3⟩ := c_days (F := F) (n := d) (by omega) a2 hA (by omega) (by omega) (by omega)
    obtain ⟨M4, d1, d2, d0, dr, d3⟩ := a3 M2 b2
    have hW : WF (K + 99) (dDays d (M (b + 3))) := WF_mono (WF_days hA (by omega)) (by omega) (by omega)
    have eM : pR M4 (b + 3) (M (b + 3)) = M4 := by rw [← d2]; exact pR_i
    have mb := m_days (F := F) (r := b + 3) (M := M4) (A := M (b + 3)) (n := d) (by omega) hA (by omega) (by omega) (by omega)
    rw [eM] at mb
    have e1 : M1 (x + 3 + 7) 1 = M (b + 3) 17 := a2.2.1.2.1
    have e2 : M2 (x + 3 + 7) 1 = dDays d (M (b + 3)) 17 := b3.2.1.2.1
    rw [if_pos c, calp_r, a1, cal_s, bnd_e, b1, cal_s, e1, e2, calw_r, bnd_e, cal_s, grd_t]
    dsimp only
    rw [m_in199, cal_s, if_pos c, if_neg (show ¬ (1 : Int32) = 0 by decide), m_refused, cal_s, if_neg (show ¬ (0 : Int32) < 0 by decide), if_pos rfl, d1, cal_s, mb, cal_s, cal_s]
    exact ⟨_, _, law_fin (by dsimp only; rw [pR_n (by omega)]; exact d0) (fun _ => by simp [wL]), d3 _ b3 hW⟩
  · rw [if_neg c, calp_l, calw_l, if_pos rfl, cal_s, grd_t]
    dsimp only
    rw [m_in199, cal_s, if_neg c, if_pos rfl, m_refused, cal_s, if_pos (show (0 : Int32) < 1 by decide), if_neg (show ¬ (1 : Int32) = 0 by decide), cal_s]
    exact ⟨wI M b 0 1, X, law_fin (v := 0) (by simp [wI]) (fun q => absurd q (by decide)), INV_0 h hb (by omega)⟩
end
