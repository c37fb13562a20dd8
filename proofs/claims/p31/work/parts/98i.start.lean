section
variable {F x a b h K : Nat} {M N : zMi} {A P : Pg}
theorem nM_no {q : Nat} (hq : q ≠ a) : nM M a q = M q := by funext k; simp [nM, hq]
theorem nM_s : nM M a a = fun _ => 0 := by funext k; simp [nM]
theorem wI_pg {i : Nat} {v : Int32} : wI M a i v a = pU (M a) i v := by funext k; simp [wI, pU]
theorem i5 : ∃ N, f_X5_init F a M = some N ∧ ∀ q, (q < a ∨ a + 20 < q) → N q = M q := by
  unfold f_X5_init f_X8_init f_X6_init f_X1_init f_X9_init f_X3_init
  simp only [bnd_e, cal_s]
  refine ⟨_, rfl, fun q hq => ?_⟩
  simp (disch := omega) only [nM_no, wI_ne]
theorem i4 : ∃ N, f_X4_init F a M = some N ∧ ∀ q, (q < a + 1 ∨ a + 21 < q) → N q = M q := by
  obtain ⟨N, n1, n2⟩ := i5 (F := F) (a := a + 1) (M := nM M (a + 1))
  unfold f_X4_init
  rw [bnd_e, n1, cal_s]
  exact ⟨N, rfl, fun q hq => by rw [n2 q (by omega), nM_no (by omega)]⟩
theorem i0 : ∃ N, f_X0_init F h M = some N ∧ ∀ q, (q < h + 1 ∨ h + 295 < q) → N q = M q := by
  obtain ⟨N0, n0, f0⟩ := i5 (F := F) (a := h + 2) (M := nM (nM M (h + 1)) (h + 2))
  obtain ⟨N1, n1, f1⟩ := i5 (F := F) (a := h + 23) (M := nM (N0) (h + 23))
  obtain ⟨N2, n2, f2⟩ := i5 (F := F) (a := h + 44) (M := nM (N1) (h + 44))
  obtain ⟨N3, n3, f3⟩ := i5 (F := F) (a := h + 65) (M := nM (N2) (h + 65))
  obtain ⟨N4, n4, f4⟩ := i5 (F := F) (a := h + 86) (M := nM (N3) (h + 86))
  obtain ⟨N5, n5, f5⟩ := i5 (F := F) (a := h + 107) (M := nM (N4) (h + 107))
  obtain ⟨N6, n6, f6⟩ := i5 (F := F) (a := h + 128) (M := nM (N5) (h + 128))
  obtain ⟨N7, n7, f7⟩ := i5 (F := F) (a := h + 149) (M := nM (N6) (h + 149))
  obtain ⟨N8, n8, f8⟩ := i5 (F := F) (a := h + 170) (M := nM (N7) (h + 170))
  obtain ⟨N9, n9, f9⟩ := i5 (F := F) (a := h + 191) (M := nM (N8) (h + 191))
  obtain ⟨N10, n10, f10⟩ := i5 (F := F) (a := h + 212) (M := nM (N9) (h + 212))
  obtain ⟨N11, n11, f11⟩ := i5 (F := F) (a := h + 233) (M := nM (N10) (h + 233))
  obtain ⟨N12, n12, f12⟩ := i5 (F := F) (a := h + 254) (M := nM (N11) (h + 254))
  obtain ⟨N13, n13, f13⟩ := i5 (F := F) (a := h + 275) (M := nM (N12) (h + 275))
  unfold f_X0_init
  rw [bnd_e, bnd_e, n0, cal_s, bnd_e, n1, cal_s, bnd_e, n2, cal_s, bnd_e, n3, cal_s, bnd_e, n4, cal_s, bnd_e, n5, cal_s, bnd_e, n6, cal_s, bnd_e, n7, cal_s, bnd_e, n8, cal_s, bnd_e, n9, cal_s, bnd_e, n10, cal_s, bnd_e, n11, cal_s, bnd_e, n12, cal_s, bnd_e, n13, cal_s]
  refine ⟨N13, rfl, fun q hq => ?_⟩
  rw [f13 q (by omega), nM_no (by omega), f12 q (by omega), nM_no (by omega), f11 q (by omega), nM_no (by omega), f10 q (by omega), nM_no (by omega), f9 q (by omega), nM_no (by omega), f8 q (by omega), nM_no (by omega), f7 q (by omega), nM_no (by omega), f6 q (by omega), nM_no (by omega), f5 q (by omega), nM_no (by omega), f4 q (by omega), nM_no (by omega), f3 q (by omega), nM_no (by omega), f2 q (by omega), nM_no (by omega), f1 q (by omega), nM_no (by omega), f0 q (by omega), nM_no (by omega), nM_no (by omega)]
noncomputable def P_0 : Pg := pU (pU (pU (fun _ => 0) 0 (nI 1)) 1 (nI 2)) 2 (nI 200)
noncomputable def P_4 : Pg := uP (hP (zP P_0 0 50 0 99 5) 0 100 10 5 20) 0 3
def Q_0 : Pg := pU (pU (pU (pU (pU (pU (pU (pU (pU (pU (pU (pU (pU (pU (pU (fun _ => 0) 0 1) 1 2) 2 200) 16 200) 4 1) 5 1) 6 1) 23 50) 25 99) 26 5) 59 100) 60 10) 61 5) 62 20) 91 3
theorem PW_4 : PW 1 1 1 P_4 := PW_w (PW_h (PW_z (PW_0 (fun _ _ => rfl) (by decide) (by decide) (by decide) (by decide) (by decide)) (by decide) (by decide) (by decide) (by decide) (by decide) (by decide)) (by decide) (by decide) (by decide)) (by decide)
theorem ag_4 : ag (pU P_4 16 (P_4 2)) Q_0 := by
  unfold ag
  decide +kernel
theorem WF_Q : WF 0 Q_0 := WF_ag ag_4 (PW_WF PW_4 (by decide) (by decide) (by decide) (by decide) (by decide) (by decide))
theorem i10 (hF : 101 ≤ F) : ∃ N, f_X10_init F x M = some N ∧ RC N (x + 3) Q_0 ∧ (∀ q, (q < x + 1 ∨ x + 385 < q) → N q = M q) ∧ N (x + 1) 1 = 0 ∧ N (x + 45) 1 = 0 ∧ N (x + 45) 2 = 0 ∧ N (x + 342) 1 = 0 ∧ N (x + 364) 1 = 0 := by
  obtain ⟨N1, a1, b1⟩ := i5 (F := F) (a := x + 3) (M := nM (nM (nM M (x + 1)) (x + 2)) (x + 3))
  obtain ⟨N2, a2, b2⟩ := i5 (F := F) (a := x + 24) (M := nM N1 (x + 24))
  obtain ⟨N3, a3, b3⟩ := i0 (F := F) (h := x + 45) (M := nM N2 (x + 45))
  obtain ⟨N4, a4, b4⟩ := i4 (F := F) (a := x + 342) (M := nM (nM N3 (x + 341)) (x + 342))
  obtain ⟨N5, a5, b5⟩ := i4 (F := F) (a := x + 364) (M := nM N4 (x + 364))
  obtain ⟨N6, a6, b6, c6⟩ := c_beginX (F := F) (a := x + 3) (M := N5) (t := 1) (d := 2) (dep := 200) (by omega)
  have r6 : RCv N6 (x + 3) P_0 := by
    refine c6 _ ?_ ?_ ?_ ?_ (fun k k0 k1 k2 k16 hk => ?_)
    · rw [pU_n (by omega)]; decide +kernel
    · rw [pU_n (by omega)]; decide +kernel
    · rw [pU_n (by omega)]; decide +kernel
    · rw [pU_s]; decide +kernel
    · rw [pU_n k16]; unfold P_0; rw [pU_n k2, pU_n k1, pU_n k0]
  obtain ⟨N7, a7, b7, c7⟩ := c_addZ (F := F) (zc := 0) (v0 := nI 50) (v1 := nI 0) (v2 := nI 99) (v3 := nI 5) r6 (by rw [pU_n (by omega)]; decide +kernel) (by decide)
  have r7 : RCv N7 (x + 3) (zP P_0 0 50 0 99 5) := by unfold RCv; rw [v_z]; exact c7
  obtain ⟨N8, a8, b8, c8⟩ := c_addS (F := F) (sc := 0) (v0 := nI 100) (v1 := nI 10) (v2 := nI 5) (v3 := nI 20) r7 (by rw [pU_n (by omega)]; decide +kernel) (by decide) (fun k k4 k8 => by
    rw [pU_n (by omega)]
    have : k = 4 ∨ k = 5 ∨ k = 6 ∨ k = 7 := by omega
    rcases this with rfl | rfl | rfl | rfl <;> decide +kernel)
  have r8 : RCv N8 (x + 3) (hP (zP P_0 0 50 0 99 5) 0 100 10 5 20) := by unfold RCv; rw [v_h]; exact c8
  obtain ⟨N9, a9, b9, c9⟩ := c_addW (F := F) (wc := 0) (v := nI 3) r8 (by rw [pU_n (by omega)]; decide +kernel) (by decide)
  have r9 : RCv N9 (x + 3) P_4 := by unfold RCv P_4; rw [v_w]; exact c9
  have up : ∀ q, (q < x + 3 ∨ x + 23 < q) → N9 q = N5 q := fun q hq => by rw [b9 q (by omega), b8 q (by omega), b7 q (by omega), b6 q (by omega)]
  have u5 : ∀ q, (q < x + 3 ∨ x + 23 < q) → (q < x + 364 ∨ x + 385 < q) → N9 q = N4 q := fun q h1 h2 => by rw [up q h1, b5 q (by omega), nM_no (by omega)]
  have u4 : ∀ q, (q < x + 3 ∨ x + 23 < q) → (q < x + 341 ∨ x + 385 < q) → N9 q = N3 q := fun q h1 h2 => by rw [u5 q h1 (by omega), b4 q (by omega), nM_no (by omega), nM_no (by omega)]
  have u3 : ∀ q, (q < x + 3 ∨ x + 23 < q) → (q < x + 46 ∨ x + 385 < q) → N9 q = nM N2 (x + 45) q := fun q h1 h2 => by rw [u4 q h1 (by omega), b3 q (by omega)]
  have u1 : ∀ q, (q < x + 3 ∨ x + 385 < q) → N9 q = nM (nM M (x + 1)) (x + 2) q := fun q h1 => by rw [u3 q (by omega) (by omega), nM_no (by omega), b2 q (by omega), nM_no (by omega), b1 q (by omega), nM_no (by omega)]
  have e7 : f_X5_addZone F (x + 3) 50 0 99 5 N6 = some N7 := a7
  have e8 : f_X5_addShip F (x + 3) 100 10 5 20 N7 = some N8 := a8
  have e9 : f_X8_add F (x + 3 + 3) 3 N8 = some N9 := a9
  refine ⟨N9, ?_, RC_ag ag_4 r9, fun q hq => by rw [u1 q (by omega), nM_no (by omega), nM_no (by omega)], ?_, ?_, ?_, ?_, ?_⟩
  · unfold f_X10_init f_X7_init
    rw [bnd_e, bnd_e, cal_s, bnd_e, a1, cal_s, bnd_e, a2, cal_s, bnd_e, a3, cal_s, bnd_e, bnd_e, a4, cal_s, bnd_e, a5, cal_s, a6, cal_s, e7, cal_s, e8, cal_s, e9, cal_s]
  · rw [u1 _ (by omega), nM_no (by omega), nM_s]
  · rw [u3 _ (by omega) (by omega), nM_s]
  · rw [u3 _ (by omega) (by omega), nM_s]
  · rw [u5 _ (by omega) (by omega), b4 _ (by omega), nM_s]
  · rw [up _ (by omega), b5 _ (by omega), nM_s]
end
