section
variable {F x b o K len : Nat} {M N : zMi} {X : zMl} {xs : Nat → Int32}
theorem case_simulate {k : Int32 → zMi → zMl → Option Int32} {v4 : Int32} (h : INV K M x b) (hb : b = x + 386) (hK : K < 700000000) (hF : 1573 < F) (hg1 : inb (v4 + 1) len = true) (hg2 : inb (v4 + 2) len = true) (hg3 : inb (v4 + 3) len = true) : goes K x b k v4 (f_L_law_1563 F len xs x b o k v4 M X) := by
  generalize hp : xs (ix (v4 + (3 : Int32))) = p
  generalize hs : ((((xs (ix (v4 + (1 : Int32))))).toInt64 <<< (((32 : Int32)).toInt64 &&& 63)) ||| (((xs (ix (v4 + (2 : Int32))))).toInt64 &&& (4294967295 : Int64))) = sd
  have hA := h.2.2.1
  unfold f_L_law_1563 f_L_simulate f_X10_simulate f_X11_simulate f_X11_simulate_18
  rw [hg1, hg2, hg3, grd_t, grd_t, grd_t, hp, hs, c_rr]
  by_cases c : 1 ≤ p ∧ p ≤ 99
  · obtain ⟨d, hd, rfl⟩ := exN (n := 99) (x := p) (by grind) c.2 (by decide)
    obtain ⟨M1, T, a1, a2, a3, a4, a5, a6⟩ := INV_tr (F := F) h hb (by omega) (by omega)
    obtain ⟨M2, b1, b2⟩ := c_simL (F := F) (x := x) (p1 := sd) (s := sd) (i := 0) (fu := F) (j := d) (by omega) a3 a4 (by omega) (by omega) (by omega)
    obtain ⟨d1, d2, d3⟩ := a6 M2 b2
    have m := m_simL (F := F) (b := b) (M := wI M2 b 0 0) (p1 := sd) (s := sd) (i := 0) (fu := F) (j := d) (A := T) (by omega) a4 (by omega) (by omega) (by omega)
    rw [Nat.zero_add] at m b1
    have e1 : M1 (x + 3 + 7) 1 = M (b + 3) 17 := by rw [a2 _ (by omega)]; exact h.2.1.2.1.2.1
    have e2 : wI M2 b 0 0 (b + 3) 17 = M (b + 3) 17 := by rw [wI_ne (by omega), d2]
    rw [e2] at m
    rw [e1] at b1
    rw [if_pos c, calp_r, a1, cal_s, show (0 : Int32) = nI 0 from rfl, b1, calw_r, bnd_e, cal_s, grd_t, grd_t, grd_t]
    dsimp only
    rw [m_in199, cal_s, if_pos c, if_neg (show ¬ (1 : Int32) = nI 0 by decide)]
    rw [show nI 0 = (0 : Int32) from rfl] at m ⊢
    rw [m_refused, cal_s, if_neg (show ¬ (0 : Int32) < 0 by decide), if_pos rfl, d1, cal_s, m, cal_s]
    exact ⟨_, _, law_fin (by dsimp only; rw [pR_n (by omega)]; simp [wI]) (fun _ => by simp [wL]), d3 _⟩
  · rw [if_neg c, calp_l, calw_l, if_pos rfl, cal_s, grd_t, grd_t, grd_t]
    dsimp only
    rw [m_in199, cal_s, if_neg c, if_pos rfl, m_refused, cal_s, if_pos (show (0 : Int32) < 1 by decide), if_neg (show ¬ (1 : Int32) = 0 by decide), cal_s]
    exact ⟨wI M b 0 1, X, law_fin (v := 0) (by simp [wI]) (fun q => absurd q (by decide)), INV_0 h hb (by omega)⟩
end
