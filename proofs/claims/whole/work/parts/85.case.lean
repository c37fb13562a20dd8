section
variable {F x b o K len : Nat} {M N : zMi} {X : zMl} {xs : Nat → Int32}
/-- what a case of the law comes to -/
def goes (K x b : Nat) (k : Int32 → zMi → zMl → Option Int32) (v4 : Int32) (res : Option Int32) : Prop := ∃ M' X', res = k (v4 + 4) M' X' ∧ INV (K + 99) M' x b
theorem c_rr {p lo hi : Int32} : f_X10_requireRange F p lo hi M = some (if lo ≤ p ∧ p ≤ hi then .inr () else .inl 1) := by
  unfold f_X10_requireRange
  by_cases h1 : p < lo
  · rw [if_pos h1, if_neg (by grind)]
  · rw [if_neg h1]
    by_cases h2 : hi < p
    · rw [if_pos h2, if_neg (by grind)]
    · rw [if_neg h2, if_pos (by grind)]
theorem INV_0 {v : Int32} (h : INV K M x b) (hb : b = x + 386) (hK : K < 1000000000) : INV (K + 99) (wI M b 0 v) x b :=
  INV_mono (INV_fr h hb (fun q q1 _ _ _ _ => wI_ne q1) (fun j j0 _ => by simp [wI, j0]) (by rw [wI_ne (by omega)])) (by omega) (by omega)
theorem m_refused {v : Int32} : f_X11_refused F b v M = some (if 0 < v then 1 else 0, wI M b 0 v) := by
  unfold f_X11_refused
  rw [bnd_e]
  split <;> rfl
theorem m_in9999 {p : Int32} : f_X11_in F p.toInt64 (0 : Int64) (9999 : Int64) M = some (if 0 ≤ p ∧ p ≤ 9999 then 1 else 0) := m_in3 (y := 0) (z := 9999)
theorem case_waves {k : Int32 → zMi → zMl → Option Int32} {v4 : Int32} (h : INV K M x b) (hb : b = x + 386) (hK : K < 1000000000) (hg : inb (v4 + 1) len = true) : goes K x b k v4 (f_L_law_482 F len xs x b o k v4 M X) := by
  generalize hp : xs (ix (v4 + (1 : Int32))) = p
  obtain ⟨w, w0, w1, hw⟩ := WF_6 h.2.2.1
  unfold f_L_law_482 f_L_waves f_X10_waves f_X11_waves f_X11_waves_18
  rw [hg, grd_t, hp, c_rr]
  by_cases c : 0 ≤ p ∧ p ≤ 9999
  · obtain ⟨d, hd, rfl⟩ := exN (n := 9999) c.1 c.2 (by decide)
    have e1 : (pR M (b + 3) (M (b + 3))) = M := pR_i
    have mw := m_waves (F := F) (r := b + 3) (M := wI M b 0 0) (A := M (b + 3)) (d := d) (by omega) w0 w1 hw
    rw [show pR (wI M b 0 0) (b + 3) (M (b + 3)) = wI M b 0 0 from by
      have : wI M b 0 0 (b + 3) = M (b + 3) := wI_ne (by omega)
      rw [← this]; exact pR_i] at mw
    rw [if_pos c, calp_r, show x + 3 + 3 = (x + 3) + 3 from rfl, c_on h.2.1 (by omega) w0 w1 hw, cal_s, calp_r, bnd_e, cal_s, grd_t]
    dsimp only
    rw [m_in9999, cal_s, if_pos c, if_neg (show ¬ (1 : Int32) = 0 by decide), m_refused, cal_s, if_neg (show ¬ (0 : Int32) < 0 by decide), if_pos rfl, mw, cal_s, cal_s]
    refine ⟨wI M b 0 0, _, law_fin (by simp [wI]) (fun _ => by simp [wL]), INV_0 h hb hK⟩
  · rw [if_neg c, calp_l, calp_l, if_pos rfl, cal_s, grd_t]
    dsimp only
    rw [m_in9999, cal_s, if_neg c, if_pos rfl, m_refused, cal_s, if_pos (show (0 : Int32) < 1 by decide), if_neg (show ¬ (1 : Int32) = 0 by decide), cal_s]
    exact ⟨wI M b 0 1, X, law_fin (v := 0) (by simp [wI]) (fun q => absurd q (by decide)), INV_0 h hb hK⟩
end
