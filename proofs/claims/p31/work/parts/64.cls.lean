section
variable {F a b K : Nat} {M : zMi} {A B : Pg}
theorem dHome_0 {s : Nat} {d : Int32} (h10 : B 10 = 0) (h11 : B 11 = 0) : dHome B s d = pU (pU B (59 + 8 * s + 5) 4) (59 + 8 * s + 6) d := by
  have e10 : (if B (59 + 8 * s + 5) = 3 then 0 else B 10) = B 10 := by split <;> simp [h10]
  unfold dHome
  dsimp only
  rw [e10, pU_i]
  have e11 : (if B 10 = 2 then B 11 else 0) = B 11 := by split <;> simp [h11]
  rw [e11, pU_i]
theorem c_homeG (h : RC M a A) {s : Nat} {d : Int32} (hs : s < 4) (h10 : A 10 = 0) (h11 : A 11 = 0) : ∃ M', f_X3_sail F (a + 17 + s) 4 d M = some M' ∧ fr a M M' ∧ RC M' a (dHome A s d) := by
  unfold f_X3_sail
  simp only [bnd_e]
  rw [dHome_0 h10 h11]
  exact ⟨_, rfl, fr_t (fr_w (by omega)) (fr_w (by omega)), RC_sh Tu_T hs (by decide) (RC_sh Tu_T hs (by decide) h)⟩
theorem c_lay {s z l c v e : Nat} (h : RC M a A) (hs : s < 4) (hw : wLay A s z l c v e) (hz4 : nI z < A 4) (h10 : A 10 = 0) (h11 : A 11 = 0) (h7n : A 7 ≠ A 4) (hb : 0 ≤ A 8 ∧ A 8 ≤ 99 ∧ 0 ≤ A (23 + 4 * z) ∧ A (23 + 4 * z) ≤ 99 ∧ 0 ≤ A 7 ∧ A 7 ≤ A 4 ∧ A 4 ≤ 9) :
    ∃ M', f_X5_lay F a (a + 17 + s) (a + 8 + z) M = some ((dLay A s).1, M') ∧ fr a M M' ∧ RC M' a (dLay A s).2 := by
  obtain ⟨m, hmv, hme, hU, hmc, hN⟩ := dLayU_N hw
  obtain ⟨hz, hl, hc, hv, he, h7, h3, h4, h1, hx⟩ := hw
  have e7 : ix (A 7) = z := by rw [h7]; exact ixN (by omega)
  have c1 : M (a + 17 + s) 1 = nI v := (RC_s h hs (by decide)).trans h1
  have c4 : M (a + 17 + s) 4 = nI c := (RC_s h hs (by decide)).trans h4
  have c4' : M (a + 17 + s) 4 = A (59 + 8 * s + 4) := RC_s h hs (by decide)
  have z0 : M (a + 8 + z) 0 = A (23 + 4 * z) := RC_z h hz hz4 (k := 0) (by decide)
  have z3 : M (a + 8 + z) 3 = nI l := (RC_z h hz hz4 (by decide)).trans h3
  have x10 : M a 10 = A 8 := h.1.2.2.2.2.2.1
  have x9 : M a 9 = A 7 := h.1.2.2.2.2.1
  have hmost : f_X9_mostUnits F (a + 8 + z) (zmin (M (a + 17 + s) 1) (M (a + 8 + z) 0 - M a 10)) (M (a + 17 + s) 4) M = some (nI m) := by
    unfold f_X9_mostUnits
    rw [c1, c4, z0, z3, x10, hx, zminN (by omega) (by omega)]
    have k := hU
    unfold dLayU dMost at k
    dsimp only at k
    rw [e7, h1, hx, h4, h3] at k
    have k2 : (if nI v < nI e then nI v else nI e) = nI (min v e) := by
      by_cases q : v < e
      · rw [if_pos (nI_lt q (by omega)), Nat.min_eq_left (by omega)]
      · rw [if_neg (fun y => q ((nI_ltI (by omega) (by omega)).mp y)), Nat.min_eq_right (by omega)]
    rw [k2] at k
    have k3 : (0 : Int32) < 100 + nI l := by
      rw [show (100 : Int32) = nI 100 from rfl, nI_add]; exact nI_lt (a := 0) (by omega) (by omega)
    rw [bnd_e, if_pos k3, k]
    have k4 : ¬ (100 + nI l = 0) := by
      intro y; rw [y] at k3; exact absurd k3 (by decide)
    simp [grd, k4]
  have hcab : f_X9_cableFor F (a + 8 + z) (nI m) M = some (dNeed A z (nI m)) := by
    unfold f_X9_cableFor dNeed; rw [RC_z h hz hz4 (by decide)]
  unfold f_X5_lay dLay
  rw [hmost, cal_s, hU]
  by_cases h0 : nI m = 0
  · rw [if_neg (by rw [h0]; decide), if_pos h0, x9]
    obtain ⟨M', k1, k2, k3⟩ := c_homeG (F := F) h hs (d := A 7 + 1) h10 h11
    rw [k1, cal_s]
    refine ⟨M', rfl, k2, ?_⟩
    unfold dWay; rw [if_neg h7n]; exact k3
  · have hp : 0 < nI m := by
      have : m ≠ 0 := fun y => h0 (by rw [y]; rfl)
      exact nI_lt (a := 0) (by omega) (by omega)
    rw [if_pos hp, if_neg h0, hcab, cal_s, c4']
    have g3 := RC_sh Tu_T hs (k := 4) (v := A (59 + 8 * s + 4) - dNeed A z (nI m)) (by decide) h
    have f3 : fr a M (wI M (a + 17 + s) 4 (A (59 + 8 * s + 4) - dNeed A z (nI m))) := fr_w (by omega)
    rw [bnd_e]
    generalize wI M (a + 17 + s) 4 (A (59 + 8 * s + 4) - dNeed A z (nI m)) = M3 at *
    rw [RC_s g3 hs (k := 7) (by decide), pU_n (by omega : 59 + 8 * s + 7 ≠ 59 + 8 * s + 4), bnd_e]
    have g4 := RC_sh Tu_T hs (k := 7) (v := A (59 + 8 * s + 7) + nI m) (by decide) g3
    have f4 : fr a M (wI M3 (a + 17 + s) 7 (A (59 + 8 * s + 7) + nI m)) := fr_t f3 (fr_w (by omega))
    generalize wI M3 (a + 17 + s) 7 (A (59 + 8 * s + 7) + nI m) = M4 at *
    rw [g4.2.1.2.1, pU_n (by omega : 17 ≠ 59 + 8 * s + 7), pU_n (by omega : 17 ≠ 59 + 8 * s + 4), bnd_e]
    have g5 := RC_l Tu_T (j := 1) (v := A 17 + nI m) (by decide) g4
    have f5 : fr a M (wI M4 (a + 7) 1 (A 17 + nI m)) := fr_t f4 (fr_w (by omega))
    generalize wI M4 (a + 7) 1 (A 17 + nI m) = M5 at *
    rw [g5.2.1.2.2.1, pU_n (by decide : 18 ≠ 16 + 1), pU_n (by omega : 18 ≠ 59 + 8 * s + 7), pU_n (by omega : 18 ≠ 59 + 8 * s + 4), bnd_e]
    have g6 := RC_l Tu_T (j := 2) (v := A 18 + (dNeed A z (nI m) - nI m)) (by decide) g5
    have f6 : fr a M (wI M5 (a + 7) 2 (A 18 + (dNeed A z (nI m) - nI m))) := fr_t f5 (fr_w (by omega))
    generalize wI M5 (a + 7) 2 (A 18 + (dNeed A z (nI m) - nI m)) = M6 at *
    rw [g6.1.2.2.2.2.2.1, pU_n (by decide : 8 ≠ 16 + 2), pU_n (by decide : 8 ≠ 16 + 1), pU_n (by omega : 8 ≠ 59 + 8 * s + 7), pU_n (by omega : 8 ≠ 59 + 8 * s + 4), bnd_e]
    have g7 := RC_h Tu_T (j := 10) (i := 8) (v := A 8 + nI m) (by decide) g6
    have f7 : fr a M (wI M6 a 10 (A 8 + nI m)) := fr_t f6 (fr_w (by omega))
    generalize wI M6 a 10 (A 8 + nI m) = M7 at *
    have eL : pU (pU (pU (pU (pU A (59 + 8 * s + 4) (A (59 + 8 * s + 4) - dNeed A z (nI m))) (59 + 8 * s + 7) (A (59 + 8 * s + 7) + nI m)) (16 + 1) (A 17 + nI m)) (16 + 2) (A 18 + (dNeed A z (nI m) - nI m))) 8 (A 8 + nI m) = dLaid A s (nI m) := by
      unfold dLaid; rw [e7]
    rw [eL] at g7
    clear g3 g4 g5 g6 f3 f4 f5 f6 eL
    have n8 : dLaid A s (nI m) 8 = A 8 + nI m := dLaid_8
    have n4 : dLaid A s (nI m) 4 = A 4 := dLaid_n (by omega) (by omega) (by omega) (by omega) (by omega)
    have n7 : dLaid A s (nI m) 7 = A 7 := dLaid_n (by omega) (by omega) (by omega) (by omega) (by omega)
    have n10 : dLaid A s (nI m) 10 = 0 := (dLaid_n (by omega) (by omega) (by omega) (by omega) (by omega)).trans h10
    have n11 : dLaid A s (nI m) 11 = 0 := (dLaid_n (by omega) (by omega) (by omega) (by omega) (by omega)).trans h11
    have nz : dLaid A s (nI m) (23 + 4 * z) = A (23 + 4 * z) := dLaid_n (by omega) (by omega) (by omega) (by omega) (by omega)
    have y10 : M7 a 10 = A 8 + nI m := g7.1.2.2.2.2.2.1.trans n8
    have y9 : M7 a 9 = A 7 := g7.1.2.2.2.2.1.trans n7
    have yz : M7 (a + 8 + z) 0 = A (23 + 4 * z) := (RC_z g7 hz (by rw [n4]; exact hz4) (k := 0) (by decide)).trans nz
    have hmI : 0 ≤ nI m ∧ nI m ≤ A (23 + 4 * z) - A 8 ∧ nI m ≤ 99 := by
      rw [hx]; exact ⟨nI_pos' (by omega), nI_le hme (by omega), nI_le (show m ≤ 99 by omega) (by decide)⟩
    rw [y10, yz, e7, n8]
    by_cases hq : A 8 + nI m = A (23 + 4 * z)
    · rw [if_neg (by grind), if_pos hq, y9, bnd_e, bnd_e]
      have g9 := RC_h Tu_T (j := 10) (i := 8) (v := 0) (by decide) (RC_h Tu_T (j := 9) (i := 7) (v := A 7 + 1) (by decide) g7)
      have f9 : fr a M (wI (wI M7 a 9 (A 7 + 1)) a 10 0) := fr_t (fr_t f7 (fr_w (by omega))) (fr_w (by omega))
      generalize wI (wI M7 a 9 (A 7 + 1)) a 10 0 = M9 at *
      unfold dNext
      rw [n7]
      dsimp only
      have p7 : pU (pU (dLaid A s (nI m)) 7 (A 7 + 1)) 8 0 7 = A 7 + 1 := by rw [pU_n (by decide), pU_s]
      have p4 : pU (pU (dLaid A s (nI m)) 7 (A 7 + 1)) 8 0 4 = A 4 := by rw [pU_n (by decide), pU_n (by decide), n4]
      have p10 : pU (pU (dLaid A s (nI m)) 7 (A 7 + 1)) 8 0 10 = 0 := by rw [pU_n (by decide), pU_n (by decide), n10]
      have p11 : pU (pU (dLaid A s (nI m)) 7 (A 7 + 1)) 8 0 11 = 0 := by rw [pU_n (by decide), pU_n (by decide), n11]
      rw [c_isFin g9, cal_s, g9.1.1, p7, p4]
      by_cases hf : A 7 + 1 = A 4
      · rw [if_neg (by rw [hf]; grind), if_pos hf]
        obtain ⟨M', k1, k2, k3⟩ := c_homeG (F := F) g9 hs (d := A 4) p10 p11
        rw [k1, cal_s]
        refine ⟨M', rfl, fr_t f9 k2, ?_⟩
        unfold dWay; rw [p7, p4, if_pos hf]; exact k3
      · rw [if_pos (by grind), if_neg hf]
        exact ⟨_, rfl, f9, g9⟩
    · rw [if_pos (by grind), if_neg hq]
      exact ⟨_, rfl, f7, g7⟩
end
