section
variable {F x b o K len : Nat} {M N : zMi} {X : zMl} {xs : Nat → Int32}
theorem m_in1999 {p : Int32} : f_X11_in F p.toInt64 (1 : Int64) (999 : Int64) M = some (if 1 ≤ p ∧ p ≤ 999 then 1 else 0) := m_in3 (y := 1) (z := 999)
theorem case_buy {k : Int32 → zMi → zMl → Option Int32} {v4 : Int32} (h : INV K M x b) (hb : b = x + 386) (hK : K < 1000000000) (hF : 1573 < F) (hg : inb (v4 + 1) len = true) : goes K x b k v4 (f_L_law_842 F len xs x b o k v4 M X) := by
  generalize hp : xs (ix (v4 + (1 : Int32))) = p
  have hA := h.2.2.1
  have hR := h.2.1
  have q2 := hA.2.2.1.2.1
  unfold f_L_law_842 f_L_buy f_X10_buy f_X11_buy
  rw [hg, grd_t, hp, c_rr]
  by_cases c : 1 ≤ p ∧ p ≤ 999
  · have ec : f_X5_canPurchase F (x + 3) p M = some (if 9999 < M (b + 3) 2 + p then 0 else 1) := by
      unfold f_X5_canPurchase
      rw [if_neg (show ¬ p < 1 by grind), hR.1.2.2.1]
      split <;> rfl
    rw [if_pos c, calp_r, ec, cal_s]
    by_cases c2 : 9999 < M (b + 3) 2 + p
    · rw [if_pos c2]
      unfold f_X10_require
      rw [if_pos rfl, calp_l, calw_l, if_neg (show ¬ (2 : Nat) = 1 by decide), if_pos rfl, cal_s, grd_t]
      dsimp only
      unfold f_X11_buy_38
      rw [m_in1999, cal_s, if_pos c, if_neg (show ¬ (1 : Int32) = 0 by decide), if_pos c2, m_refused, cal_s, if_pos (show (0 : Int32) < 2 by decide), if_neg (show ¬ (1 : Int32) = 0 by decide), cal_s]
      exact ⟨wI M b 0 2, X, law_fin (v := 0) (by simp [wI]) (fun q => absurd q (by decide)), INV_0 h hb hK⟩
    · rw [if_neg c2]
      unfold f_X10_require
      obtain ⟨M1, a1, a2, a3⟩ := INV_act (F := F) h hb hK hF
      obtain ⟨M2, b1, b2, b3⟩ := c_buy (F := F) (u := p) a2
      obtain ⟨M4, d1, d2, d0, dr, d3⟩ := a3 M2 b2
      have hW : WF (K + 99) (dBuy p (M (b + 3))) := WF_mono (WF_buy hA (by grind)) (by omega) (by omega)
      have eM : pR M4 (b + 3) (M (b + 3)) = M4 := by rw [← d2]; exact pR_i
      have mb := m_buy (F := F) (r := b + 3) (M := M4) (A := M (b + 3)) (u := p)
      rw [eM] at mb
      have v2 : dBuy p (M (b + 3)) 2 = M2 (x + 3) 7 := b3.1.2.2.1.symm
      rw [if_neg (show ¬ (1 : Int32) = 0 by decide), calp_r, a1, cal_s, b1, cal_s, calw_r, bnd_e, cal_s, grd_t]
      dsimp only
      unfold f_X11_buy_38
      rw [m_in1999, cal_s, if_pos c, if_neg (show ¬ (1 : Int32) = 0 by decide), if_neg (show ¬ 9999 < M2 (b + 3) 2 + p by rw [dr]; exact c2), m_refused, cal_s, if_neg (show ¬ (0 : Int32) < 0 by decide), if_pos rfl, d1, cal_s, mb, cal_s, cal_s, pR_s, v2]
      exact ⟨_, _, law_fin (by dsimp only; rw [pR_n (by omega)]; exact d0) (fun _ => by simp [wL]), d3 _ b3 hW⟩
  · rw [if_neg c, calp_l, calw_l, if_pos rfl, cal_s, grd_t]
    dsimp only
    unfold f_X11_buy_38
    rw [m_in1999, cal_s, if_neg c, if_pos rfl, m_refused, cal_s, if_pos (show (0 : Int32) < 1 by decide), if_neg (show ¬ (1 : Int32) = 0 by decide), cal_s]
    exact ⟨wI M b 0 1, X, law_fin (v := 0) (by simp [wI]) (fun q => absurd q (by decide)), INV_0 h hb hK⟩
end
