section
variable {F x K n len : Nat} {M M' : zMi} {A : Pg} {D : Nat → Nat} {Q : (Nat × (Nat → Pg)) × (Nat → Option Pg)} {xs : Nat → Int32} {p3 : Int32}
noncomputable def Q0 : (Nat × (Nat → Pg)) × (Nat → Option Pg) := ((0, fun _ _ => 0), fun _ => none)
def Fin2 (x : Nat) (D : Nat → Nat) (f : Option (Int32 × zMi)) : Prop := ∃ M', f = some (1, M') ∧ T2 0 M' x (dB D) Q0 D (sz D + 1 + nWd D + 1)
theorem dB_o {k : Nat} (h : k ≠ 16) : dB D k = Pv D (nWd D) k := by unfold dB; exact pU_n h
theorem l_t606 (h : T2 K M x A Q D (sz D + 1 + nWd D)) (hF : 101 ≤ F) : Fin2 x D (f_L_told_606 F len xs x (x + 386) p3 (nI (nZ D)) (nI (nSh D)) (nI (nWd D)) (nI (nDp D)) 1 (nI (sz D)) M) := by
  have w := nb_W (D := D)
  have s := nb_S (D := D)
  have zz := nb_Z (D := D)
  have szb := sz_b (D := D)
  obtain ⟨tx, t1, t2, t3⟩ := h
  have B4 : dB D 4 = nI (nZ D) := by rw [dB_o (by decide)]; exact (PWv (D := D) (d := nWd D) (by omega)).2.2.2.1
  have B5 : dB D 5 = nI (nSh D) := by rw [dB_o (by decide)]; exact (PWv (D := D) (d := nWd D) (by omega)).2.2.2.2.1
  have B3 : dB D 3 = 0 := by rw [dB_o (by decide)]; exact (PWv (D := D) (d := nWd D) (by omega)).2.2.2.2.2.2.1
  have B2 : dB D 2 = nI (nDp D) := by rw [dB_o (by decide)]; exact Pv_2
  have B16 : dB D 16 = nI (nDp D) := by unfold dB; rw [pU_s]; exact Pv_2
  have Bs : dB D (59 + 8 * 0 + 5) = 0 := by rw [dB_o (by decide)]; exact (PWv (D := D) (d := nWd D) (by omega)).2.2.2.2.2.2.2.2.2.2.2 0 (by decide) 5 (by decide) (by decide)
  have ro : ∀ {y : Nat} {N : zMi}, Ob K N y A ((sz D + 1 + nWd D, tx), Q) → RdO F y N (dB D) := fun {y N} g => R_wO (F := F) (TX_T g.1 t1) (by omega) hF w.1 (Nat.le_refl _) rfl
  obtain ⟨M1, a1, a2, a3⟩ := t_ldO (F := F) (K' := 0) t2 hF WS_B (ro t2)
  have t3' := Ob_x t3 a3 (by omega)
  obtain ⟨M2, b1, b2, b3⟩ := t_ldO (F := F) (K' := 0) t3' hF WS_B (ro t3')
  have a2' := Ob_x a2 b3 (by omega)
  obtain ⟨⟨g0, g1, -, -⟩, ⟨g4, g5, -, -⟩, -, -⟩ := t_b (F := F) a2' hF
  obtain ⟨⟨u0, -, -, -⟩, -⟩ := t_a (F := F) a2' hF
  have e5 : f_L_tryShip F x 0 5 M2 = some (dB D (59 + 8 * 0 + 5)) := (t_s5 (F := F) (s := 0) a2' (by decide) (by rw [B5]; exact nI_lt (by omega) (by omega))).2.2.1
  obtain ⟨M3, c1, c2, c3⟩ := t_undoN (F := F) a2' rfl
  have b2' := Ob_x b2 c3 (by omega)
  obtain ⟨M4, d1, d2, d3⟩ := t_resN (F := F) (s := 1) b2' (by decide) rfl
  have c2' := Ob_x c2 d3 (by omega)
  have hT : T2 0 M4 x (dB D) Q0 D (sz D + 1 + nWd D) := ⟨tx, t1, c2', d2⟩
  obtain ⟨M5, f1, f2⟩ := l_put (F := F) (c := 119) hT (by omega) (by decide) TT_e
  obtain ⟨M6, k1, k2⟩ := l_ep (F := F) f2 (fun g => R_wE g (by omega) hF rfl)
  obtain ⟨tx', y1, y2, y3⟩ := k2
  obtain ⟨M7, l1, l2, l3⟩ := t_ldE (F := F) (i := sz D + 1 + nWd D) y2 (by omega) (R_wE (TX_T y2.1 y1) (by omega) hF rfl)
  refine ⟨M7, ?_, tx', y1, l2, Ob_x y3 l3 (by omega)⟩
  unfold f_L_told_606
  rw [if_neg (show ¬ (1 : Int32) = 0 by decide), a1, cal_s, if_pos B4, b1, cal_s, if_pos B4, g0, cal_s, if_pos B4, g1, cal_s, if_pos B5, g4, cal_s, if_pos B2, u0, cal_s, if_pos B16, g5, cal_s, if_pos B3, e5, cal_s, if_pos Bs, c1, cal_s, if_pos rfl, show f_L_tryRestore F (x + 386) (1 : Int32) M3 = some (-1003, M4) from d1, cal_s, if_pos rfl, show f_L_put F x (x + 386) (119 : Int32) M4 = some (1, M5) from f1, cal_s, if_neg (show ¬ (1 : Int32) = 0 by decide), k1, cal_s, ad1, nI_add, if_pos rfl, l1, cal_s, if_pos rfl]
theorem l_t532 (hN : ∀ (F : Nat) (M : zMi), f_L_number F len xs (p3 + 9) M = some (nI (D 9))) (h9 : D 9 < 2147483648) (hF : 101 ≤ F) {j : Nat} : ∀ {d fu : Nat} {M : zMi}, d + j = nWd D → j < fu → T2 K M x A Q D (sz D + 1 + d) → Fin2 x D (f_L_told_532 F len xs x (x + 386) p3 fu (nI (nZ D)) (nI (nSh D)) (nI (nWd D)) (nI (nDp D)) 1 (nI (sz D)) (nI d) M) := by
  have w := nb_W (D := D)
  have szb := sz_b (D := D)
  induction j with
  | zero =>
    intro d fu M hd hf h
    obtain ⟨q, rfl⟩ : ∃ q, fu = q + 1 := ⟨fu - 1, by omega⟩
    have : d = nWd D := by omega
    subst this
    rw [f_L_told_532, if_neg (nI_nlt (Nat.le_refl _) (by omega))]
    exact l_t606 h hF
  | succ j ih =>
    intro d fu M hd hf h
    obtain ⟨q, rfl⟩ : ∃ q, fu = q + 1 := ⟨fu - 1, by omega⟩
    have v := wb_V (D := D) (d := d)
    have e15 : (1 : Int32) + (5 : Int32) * nI d = nI (1 + 5 * d) := by rw [show (5 : Int32) * nI d = nI (5 * d) from nI_mul 5 d, one_N]
    have ed : nI d - nI d / (2 : Int32) * (2 : Int32) = nI (d % 2) := rem_N (by omega) (by decide) (by decide) rfl
    obtain ⟨M1, a1, a2⟩ := l_put (F := F) (c := 48 + wV D d) h (by omega) (by omega) (TT_v (by omega))
    obtain ⟨M2, b1, b2⟩ := l_epO (F := F) a2 (fun g => ⟨_, R_wO (F := F) (d := d + 1) g (by omega) hF (by omega) (by omega) (by omega)⟩)
    obtain ⟨M3, c1, c2⟩ := ih (d := d + 1) (fu := q) (M := M2) (by omega) (by omega) b2
    have t576 : ∀ m : Nat, 0 < m → m < 100 → wV D d = D 9 / (1 + 5 * d) % m → f_L_told_576 F len xs x (x + 386) p3 (f_L_told_532 F len xs x (x + 386) p3 q) (nI (nZ D)) (nI (nSh D)) (nI (nWd D)) (nI (nDp D)) (nI (sz D)) (nI d) (nI m) (nI (D 9) / nI (1 + 5 * d)) M = some (1, M3) := fun m m0 m1 hm => by
      unfold f_L_told_576
      rw [show (!decide (nI m = 0)) = true by simp [nI_ne0 (n := m) m0 (by omega)], grd_t, show nI (D 9) / nI (1 + 5 * d) = nI (D 9 / (1 + 5 * d)) from div_N h9 (by omega) (by omega) rfl, rem_N (dlt h9) m0 (by omega) rfl, ← hm, show (48 : Int32) + nI (wV D d) = nI (48 + wV D d) from nI_add 48 _, a1, cal_s, if_neg (show ¬ (1 : Int32) = 0 by decide), b1, cal_s, if_pos rfl, ad1, c1]
    refine ⟨M3, ?_, c2⟩
    rw [f_L_told_532, if_pos (nI_lt (by omega) (by omega)), if_neg (show ¬ (1 : Int32) = 0 by decide), hN, cal_s, e15, show (!decide (nI (1 + 5 * d) = 0)) = true by simp [nI_ne0 (n := 1 + 5 * d) (by omega) (by omega)], grd_t, ed]
    by_cases c : d % 2 = 0
    · rw [c, if_pos (show nI 0 = (0 : Int32) from rfl)]
      exact t576 10 (by decide) (by decide) (by unfold wV; rw [if_pos c])
    · rw [if_neg (nI_ne0 (by omega) (by omega))]
      exact t576 4 (by decide) (by decide) (by unfold wV; rw [if_neg c])
theorem l_t486 (hN : ∀ (F : Nat) (M : zMi), f_L_number F len xs (p3 + 9) M = some (nI (D 9))) (h9 : D 9 < 2147483648) (hF : 101 ≤ F) (h : T2 K M x A Q D (sz D)) : Fin2 x D (f_L_told_486 F len xs x (x + 386) p3 (nI (nZ D)) (nI (nSh D)) (nI (nWd D)) (nI (nDp D)) 1 (nI (sz0 D)) M) := by
  have szb := sz_b (D := D)
  have w := nb_W (D := D)
  have s := nb_S (D := D)
  obtain ⟨M1, a1, a2⟩ := l_put (F := F) (c := 119) h (by omega) (by decide) TT_w
  obtain ⟨M2, b1, b2⟩ := l_ep (F := F) a2 (fun g => R_w0 g (by omega) hF rfl)
  obtain ⟨M3, c1, c2⟩ := l_t532 (F := F) (len := len) (xs := xs) (p3 := p3) hN h9 hF (j := nWd D) (d := 0) (fu := 11) (M := M2) (by omega) (by omega) b2
  refine ⟨M3, ?_, c2⟩
  unfold f_L_told_486
  rw [show nI (sz0 D) + (9 : Int32) * nI (nSh D) = nI (sz D) from by rw [show (9 : Int32) * nI (nSh D) = nI (9 * nSh D) from nI_mul 9 _, nI_add]; rfl, bnd_e, if_neg (show ¬ (1 : Int32) = 0 by decide), show f_L_put F x (x + 386) (119 : Int32) M = some (1, M1) from a1, cal_s, if_neg (show ¬ (1 : Int32) = 0 by decide), b1, cal_s, ad1, if_pos rfl]
  exact c1
end
