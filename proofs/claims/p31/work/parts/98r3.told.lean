section
variable {F x K n len at' : Nat} {M M' : zMi} {A : Pg} {D : Nat → Nat} {Q : (Nat × (Nat → Pg)) × (Nat → Option Pg)} {xs : Nat → Int32}
def Nu (len : Nat) (xs : Nat → Int32) (at' : Nat) (D : Nat → Nat) : Prop := ∀ k, k < 1000000 → D k < 2147483648 ∧ ∀ (F : Nat) (M : zMi), f_L_number F len xs (nI (at' + k)) M = some (nI (D k))
theorem Nu_9 (hN : Nu len xs at' D) (F : Nat) (M : zMi) : f_L_number F len xs (nI at' + 9) M = some (nI (D 9)) := by
  rw [show nI at' + (9 : Int32) = nI (at' + 9) from nI_add _ 9]; exact (hN 9 (by decide)).2 F M
theorem Nu_c (hN : Nu len xs at' D) (c i : Nat) (h : c + i < 1000000) (F : Nat) (M : zMi) : f_L_number F len xs ((nI at' + nI c) + nI i) M = some (nI (D (c + i))) := by
  rw [nI_add, nI_add, Nat.add_assoc]; exact (hN (c + i) h).2 F M
theorem l_t323 (hN : Nu len xs at' D) (hF : 101 ≤ F) {j : Nat} : ∀ {i fu : Nat} {M : zMi}, i + j = nSh D → j < fu → T2 K M x A Q D (sz0 D + 9 * i) → Fin2 x D (f_L_told_323 F len xs x (x + 386) (nI at') fu (nI (nZ D)) (nI (nSh D)) (nI (nWd D)) (nI (nDp D)) 1 (nI (sz0 D)) (nI i) M) := by
  have szb := sz_b (D := D)
  have s4 := nb_S (D := D)
  induction j with
  | zero =>
    intro i fu M hi hf h
    obtain ⟨q, rfl⟩ : ∃ q, fu = q + 1 := ⟨fu - 1, by omega⟩
    have : i = nSh D := by omega
    subst this
    rw [f_L_told_323, if_neg (nI_nlt (Nat.le_refl _) (by omega))]
    exact l_t486 (Nu_9 hN) (hN 9 (by decide)).1 hF h
  | succ j ih =>
    intro i fu M hi hf h
    obtain ⟨q, rfl⟩ : ∃ q, fu = q + 1 := ⟨fu - 1, by omega⟩
    have szz : sz0 D + 9 * nSh D ≤ 75 := szb
    have hD := (hN (5 + i) (by omega)).1
    have hi' : i < nSh D := by omega
    have c := kb_C (D := D) (j := i)
    have v := kb_V (D := D) (j := i)
    have w := kb_W (D := D) (j := i)
    have r := kb_R (D := D) (j := i)
    have q1 : (10 : Int32) + (nI (D (5 + i)) - nI (D (5 + i)) / (150 : Int32) * (150 : Int32)) = nI (kC D i) := by
      rw [show nI (D (5 + i)) - nI (D (5 + i)) / (150 : Int32) * (150 : Int32) = nI (D (5 + i) % 150) from rem_N hD (by decide) (by decide) rfl]
      exact nI_add 10 _
    have q2 : (1 : Int32) + (nI (D (5 + i)) / (256 : Int32) - nI (D (5 + i)) / (256 : Int32) / (20 : Int32) * (20 : Int32)) = nI (kV D i) := by
      rw [show nI (D (5 + i)) / (256 : Int32) = nI (D (5 + i) / 256) from div_N hD (by decide) (by decide) rfl, show nI (D (5 + i) / 256) - nI (D (5 + i) / 256) / (20 : Int32) * (20 : Int32) = nI (D (5 + i) / 256 % 20) from rem_N (dlt hD) (by decide) (by decide) rfl]
      exact nI_add 1 _
    have q3 : (49 : Int32) + (nI (D (5 + i)) / (8192 : Int32) - nI (D (5 + i)) / (8192 : Int32) / (9 : Int32) * (9 : Int32)) = nI (48 + kW D i) := by
      rw [show nI (D (5 + i)) / (8192 : Int32) = nI (D (5 + i) / 8192) from div_N hD (by decide) (by decide) rfl, show nI (D (5 + i) / 8192) - nI (D (5 + i) / 8192) / (9 : Int32) * (9 : Int32) = nI (D (5 + i) / 8192 % 9) from rem_N (dlt hD) (by decide) (by decide) rfl, show (49 : Int32) + nI (D (5 + i) / 8192 % 9) = nI (49 + D (5 + i) / 8192 % 9) from nI_add 49 _]
      congr 1
      unfold kW
      omega
    have q4 : (1 : Int32) + (nI (D (5 + i)) / (131072 : Int32) - nI (D (5 + i)) / (131072 : Int32) / (99 : Int32) * (99 : Int32)) = nI (kR D i) := by
      rw [show nI (D (5 + i)) / (131072 : Int32) = nI (D (5 + i) / 131072) from div_N hD (by decide) (by decide) rfl, show nI (D (5 + i) / 131072) - nI (D (5 + i) / 131072) / (99 : Int32) * (99 : Int32) = nI (D (5 + i) / 131072 % 99) from rem_N (dlt hD) (by decide) (by decide) rfl]
      exact nI_add 1 _
    have p7 : nI (sz0 D) + (7 : Int32) + (9 : Int32) * nI i = nI (sz0 D + 9 * i + 7) := by
      rw [show (9 : Int32) * nI i = nI (9 * i) from nI_mul 9 i, show nI (sz0 D) + (7 : Int32) = nI (sz0 D + 7) from nI_add _ 7, nI_add]
      congr 1
      omega
    have p9 : nI (sz0 D) + (9 : Int32) + (9 : Int32) * nI i = nI (sz0 D + 9 * (i + 1)) := by
      rw [show (9 : Int32) * nI i = nI (9 * i) from nI_mul 9 i, show nI (sz0 D) + (9 : Int32) = nI (sz0 D + 9) from nI_add _ 9, nI_add]
      congr 1
      omega
    obtain ⟨M1, a1, b1⟩ := l_put (F := F) (c := 115) h (by omega) (by decide) (TT_s (k := 0) hi' (by decide))
    obtain ⟨M2, a2, b2⟩ := l_digits (F := F) (v := kC D i) (k := 2) (p3 := 100) (by omega) b1 (by decide) rfl (by omega) (fun y hy => sh_1 hi' (by omega))
    have b2' : T2 K M2 x A Q D (sz0 D + 9 * i + 1 + 3) := b2
    obtain ⟨M3, a3, b3⟩ := l_digits (F := F) (v := kV D i) (k := 1) (p3 := 10) (by omega) b2' (by decide) rfl (by omega) (fun y hy => sh_2 hi' (by omega))
    have b3' : T2 K M3 x A Q D (sz0 D + 9 * i + 1 + 3 + 2) := b3
    obtain ⟨M4, a4, b4⟩ := l_put (F := F) (c := 48 + kW D i) b3' (by omega) (by omega) (by
      have := sh_3 hi' (show 0 < 1 by decide)
      rw [← dg1 w.2 (by decide)] at this
      exact this)
    have b4' : T2 K M4 x A Q D (sz0 D + 9 * i + 7) := b4
    obtain ⟨M5, a5, b5⟩ := l_ep (F := F) b4' (fun g => R_s7 g (by omega) hF hi' rfl)
    have b5' : T2 K M5 x A Q D (sz0 D + 9 * i + 1 + 3 + 2 + 1) := b5
    obtain ⟨M6, a6, b6⟩ := l_digits (F := F) (v := kR D i) (k := 1) (p3 := 10) (by omega) b5' (by decide) rfl (by omega) (fun y hy => sh_4 hi' (by omega))
    have b6' : T2 K M6 x A Q D (sz0 D + 9 * (i + 1)) := by rw [show sz0 D + 9 * (i + 1) = sz0 D + 9 * i + 1 + 3 + 2 + 1 + 1 + 1 by omega]; exact b6
    obtain ⟨M7, a7, b7⟩ := l_ep (F := F) b6' (fun g => R_s9 g (by omega) hF (by omega) (by omega) rfl)
    obtain ⟨M8, a8, b8⟩ := ih (i := i + 1) (fu := q) (by omega) (by omega) b7
    refine ⟨M8, ?_, b8⟩
    rw [f_L_told_323, if_pos (nI_lt (by omega) (by omega)), if_neg (show ¬ (1 : Int32) = 0 by decide), show f_L_number F len xs ((nI at' + (5 : Int32)) + nI i) M = some (nI (D (5 + i))) from Nu_c hN 5 i (by omega) F M, cal_s, show f_L_put F x (x + 386) (115 : Int32) M = some (1, M1) from a1, cal_s, if_neg (show ¬ (1 : Int32) = 0 by decide), q1, a2, cal_s, if_neg (show ¬ (1 : Int32) = 0 by decide), q2, a3, cal_s, if_neg (show ¬ (1 : Int32) = 0 by decide), q3, a4, cal_s, if_neg (show ¬ (1 : Int32) = 0 by decide), a5, cal_s, p7, if_pos rfl, q4, a6, cal_s, if_neg (show ¬ (1 : Int32) = 0 by decide), a7, cal_s, p9, if_pos rfl, ad1]
    exact a8
theorem l_t146 (hN : Nu len xs at' D) (hF : 101 ≤ F) {j : Nat} : ∀ {i fu : Nat} {M : zMi}, i + j = nZ D → j < fu → T2 K M x A Q D (7 + 8 * i) → Fin2 x D (f_L_told_146 F len xs x (x + 386) (nI at') fu (nI (nZ D)) (nI (nSh D)) (nI (nWd D)) (nI (nDp D)) 1 (nI i) M) := by
  have z4 := nb_Z (D := D)
  have s4 := nb_S (D := D)
  induction j with
  | zero =>
    intro i fu M hi hf h
    obtain ⟨q, rfl⟩ : ∃ q, fu = q + 1 := ⟨fu - 1, by omega⟩
    have : i = nZ D := by omega
    subst this
    rw [f_L_told_146, if_neg (nI_nlt (Nat.le_refl _) (by omega))]
    unfold f_L_told_310
    rw [show (7 : Int32) + (8 : Int32) * nI (nZ D) = nI (sz0 D) from by rw [show (8 : Int32) * nI (nZ D) = nI (8 * nZ D) from nI_mul 8 _]; exact nI_add 7 _, bnd_e]
    exact l_t323 hN hF (j := nSh D) (i := 0) (fu := 6) (by omega) (by omega) h
  | succ j ih =>
    intro i fu M hi hf h
    obtain ⟨q, rfl⟩ : ∃ q, fu = q + 1 := ⟨fu - 1, by omega⟩
    have hD := (hN (1 + i) (by omega)).1
    have hi' : i < nZ D := by omega
    have l := zb_L (D := D) (j := i)
    have f := zb_F (D := D) (j := i)
    have t := zb_T (D := D) (j := i)
    have s := zb_S (D := D) (j := i)
    have x2 : nI (D (1 + i)) / (64 : Int32) - nI (D (1 + i)) / (64 : Int32) / (20 : Int32) * (20 : Int32) = nI (zF D i) := by
      rw [show nI (D (1 + i)) / (64 : Int32) = nI (D (1 + i) / 64) from div_N hD (by decide) (by decide) rfl]
      exact rem_N (dlt hD) (by decide) (by decide) rfl
    have x100 : (100 : Int32) - nI (zF D i) = nI (100 - zF D i) := nI_sb (a := 100) (by omega)
    have x3 : nI (zF D i) + (nI (D (1 + i)) / (2048 : Int32) - nI (D (1 + i)) / (2048 : Int32) / nI (100 - zF D i) * nI (100 - zF D i)) = nI (zT D i) := by
      rw [show nI (D (1 + i)) / (2048 : Int32) = nI (D (1 + i) / 2048) from div_N hD (by decide) (by decide) rfl, show nI (D (1 + i) / 2048) - nI (D (1 + i) / 2048) / nI (100 - zF D i) * nI (100 - zF D i) = nI (D (1 + i) / 2048 % (100 - zF D i)) from rem_N (dlt hD) (by omega) (by omega) rfl, nI_add]
      rfl
    have q1 : (1 : Int32) + (nI (D (1 + i)) - nI (D (1 + i)) / (40 : Int32) * (40 : Int32)) = nI (zL D i) := by
      rw [show nI (D (1 + i)) - nI (D (1 + i)) / (40 : Int32) * (40 : Int32) = nI (D (1 + i) % 40) from rem_N hD (by decide) (by decide) rfl]
      exact nI_add 1 _
    have q4 : (48 : Int32) + (nI (D (1 + i)) / (1048576 : Int32) - nI (D (1 + i)) / (1048576 : Int32) / (10 : Int32) * (10 : Int32)) = nI (48 + zS D i) := by
      rw [show nI (D (1 + i)) / (1048576 : Int32) = nI (D (1 + i) / 1048576) from div_N hD (by decide) (by decide) rfl, show nI (D (1 + i) / 1048576) - nI (D (1 + i) / 1048576) / (10 : Int32) * (10 : Int32) = nI (D (1 + i) / 1048576 % 10) from rem_N (dlt hD) (by decide) (by decide) rfl]
      exact nI_add 48 _
    have p5 : (12 : Int32) + (8 : Int32) * nI i = nI (7 + 8 * i + 5) := by
      rw [show (8 : Int32) * nI i = nI (8 * i) from nI_mul 8 i, show (12 : Int32) + nI (8 * i) = nI (12 + 8 * i) from nI_add 12 _]
      congr 1
      omega
    have p8 : (15 : Int32) + (8 : Int32) * nI i = nI (7 + 8 * (i + 1)) := by
      rw [show (8 : Int32) * nI i = nI (8 * i) from nI_mul 8 i, show (15 : Int32) + nI (8 * i) = nI (15 + 8 * i) from nI_add 15 _]
      congr 1
      omega
    obtain ⟨M1, a1, b1⟩ := l_put (F := F) (c := 122) h (by omega) (by decide) (TT_z (k := 0) hi' (by decide))
    obtain ⟨M2, a2, b2⟩ := l_digits (F := F) (v := zL D i) (k := 1) (p3 := 10) (by omega) b1 (by decide) rfl (by omega) (fun y hy => zn_1 hi' (by omega))
    have b2' : T2 K M2 x A Q D (7 + 8 * i + 1 + 2) := b2
    obtain ⟨M3, a3, b3⟩ := l_digits (F := F) (v := zF D i) (k := 1) (p3 := 10) (by omega) b2' (by decide) rfl (by omega) (fun y hy => zn_2 hi' (by omega))
    have b3' : T2 K M3 x A Q D (7 + 8 * i + 5) := b3
    obtain ⟨M4, a4, b4⟩ := l_ep (F := F) b3' (fun g => R_z5 g (by omega) hF hi' rfl)
    have b4' : T2 K M4 x A Q D (7 + 8 * i + 1 + 2 + 2) := b4
    obtain ⟨M5, a5, b5⟩ := l_digits (F := F) (v := zT D i) (k := 1) (p3 := 10) (by omega) b4' (by decide) rfl (by omega) (fun y hy => zn_3 hi' (by omega))
    have b5' : T2 K M5 x A Q D (7 + 8 * i + 1 + 2 + 2 + 2) := b5
    obtain ⟨M6, a6, b6⟩ := l_put (F := F) (c := 48 + zS D i) b5' (by omega) (by omega) (by
      have := zn_4 hi' (show 0 < 1 by decide)
      rw [← dg1 s (by decide)] at this
      exact this)
    have b6' : T2 K M6 x A Q D (7 + 8 * (i + 1)) := by rw [show 7 + 8 * (i + 1) = 7 + 8 * i + 1 + 2 + 2 + 2 + 1 by omega]; exact b6
    obtain ⟨M7, a7, b7⟩ := l_ep (F := F) b6' (fun g => R_z8 g (by omega) hF (by omega) (by omega) rfl)
    obtain ⟨M8, a8, b8⟩ := ih (i := i + 1) (fu := q) (by omega) (by omega) b7
    refine ⟨M8, ?_, b8⟩
    rw [f_L_told_146, if_pos (nI_lt (by omega) (by omega)), if_neg (show ¬ (1 : Int32) = 0 by decide), show f_L_number F len xs ((nI at' + (1 : Int32)) + nI i) M = some (nI (D (1 + i))) from Nu_c hN 1 i (by omega) F M, cal_s, x2, bnd_e, x100, show (!decide (nI (100 - zF D i) = 0)) = true by simp [nI_ne0 (n := 100 - zF D i) (by omega) (by omega)], grd_t, x3, bnd_e, show f_L_put F x (x + 386) (122 : Int32) M = some (1, M1) from a1, cal_s, if_neg (show ¬ (1 : Int32) = 0 by decide), q1, a2, cal_s, if_neg (show ¬ (1 : Int32) = 0 by decide), a3, cal_s, if_neg (show ¬ (1 : Int32) = 0 by decide), a4, cal_s, p5, if_pos rfl, a5, cal_s, if_neg (show ¬ (1 : Int32) = 0 by decide), q4, a6, cal_s, if_neg (show ¬ (1 : Int32) = 0 by decide), a7, cal_s, p8, if_pos rfl, ad1]
    exact a8
/-- routes by lot, told to both -/
theorem l_told {R : Rs} (hN : Nu len xs at' D) (hF : 101 ≤ F) (h : Ob K M x A R) (g : Ob K M (x + 386) A R) : Fin2 x D (f_L_told F len xs x (x + 386) (nI at') M) := by
  have hD := (hN 0 (by decide)).1
  have d9 := nb_D (D := D)
  have t3 := nb_T (D := D)
  have s3 := nb_P (D := D)
  have x1 : (1 : Int32) + (nI (D 0) - nI (D 0) / (4 : Int32) * (4 : Int32)) = nI (nZ D) := by
    rw [show nI (D 0) - nI (D 0) / (4 : Int32) * (4 : Int32) = nI (D 0 % 4) from rem_N hD (by decide) (by decide) rfl]
    exact nI_add 1 _
  have x2 : (1 : Int32) + (nI (D 0) / (4 : Int32) - nI (D 0) / (4 : Int32) / (4 : Int32) * (4 : Int32)) = nI (nSh D) := by
    rw [show nI (D 0) / (4 : Int32) = nI (D 0 / 4) from div_N hD (by decide) (by decide) rfl, show nI (D 0 / 4) - nI (D 0 / 4) / (4 : Int32) * (4 : Int32) = nI (D 0 / 4 % 4) from rem_N (dlt hD) (by decide) (by decide) rfl]
    exact nI_add 1 _
  have x3 : (1 : Int32) + (nI (D 0) / (16 : Int32) - nI (D 0) / (16 : Int32) / (9 : Int32) * (9 : Int32)) = nI (nWd D) := by
    rw [show nI (D 0) / (16 : Int32) = nI (D 0 / 16) from div_N hD (by decide) (by decide) rfl, show nI (D 0 / 16) - nI (D 0 / 16) / (9 : Int32) * (9 : Int32) = nI (D 0 / 16 % 9) from rem_N (dlt hD) (by decide) (by decide) rfl]
    exact nI_add 1 _
  have x4 : nI (D 0) / (256 : Int32) - nI (D 0) / (256 : Int32) / (1000 : Int32) * (1000 : Int32) = nI (nDp D) := by
    rw [show nI (D 0) / (256 : Int32) = nI (D 0 / 256) from div_N hD (by decide) (by decide) rfl]
    exact rem_N (dlt hD) (by decide) (by decide) rfl
  have x5 : (49 : Int32) + (nI (D 0) / (524288 : Int32) - nI (D 0) / (524288 : Int32) / (3 : Int32) * (3 : Int32)) = nI (48 + nT D) := by
    rw [show nI (D 0) / (524288 : Int32) = nI (D 0 / 524288) from div_N hD (by decide) (by decide) rfl, show nI (D 0 / 524288) - nI (D 0 / 524288) / (3 : Int32) * (3 : Int32) = nI (D 0 / 524288 % 3) from rem_N (dlt hD) (by decide) (by decide) rfl, show (49 : Int32) + nI (D 0 / 524288 % 3) = nI (49 + D 0 / 524288 % 3) from nI_add 49 _]
    congr 1
    unfold nT
    omega
  have x6 : (49 : Int32) + (nI (D 0) / (2097152 : Int32) - nI (D 0) / (2097152 : Int32) / (3 : Int32) * (3 : Int32)) = nI (48 + nSp D) := by
    rw [show nI (D 0) / (2097152 : Int32) = nI (D 0 / 2097152) from div_N hD (by decide) (by decide) rfl, show nI (D 0 / 2097152) - nI (D 0 / 2097152) / (3 : Int32) * (3 : Int32) = nI (D 0 / 2097152 % 3) from rem_N (dlt hD) (by decide) (by decide) rfl, show (49 : Int32) + nI (D 0 / 2097152 % 3) = nI (49 + D 0 / 2097152 % 3) from nI_add 49 _]
    congr 1
    unfold nSp
    omega
  have n0 : f_L_number F len xs (nI at') M = some (nI (D 0)) := (hN 0 (by decide)).2 F M
  obtain ⟨M1, a1, b1, c1⟩ := t_cl (F := F) h
  obtain ⟨M2, a2, b2, c2⟩ := t_cl (F := F) (Ob_x g c1 (by omega))
  have h0 : T2 K M2 x A R.2 D 0 := ⟨R.1.2, fun k hk => absurd hk (Nat.not_lt_zero _), Ob_x b1 c2 (by omega), b2⟩
  obtain ⟨M3, a3, b3⟩ := l_put (F := F) (c := 67) h0 (by decide) (by decide) (TT_h (by decide))
  obtain ⟨M4, a4, b4⟩ := l_put (F := F) (c := 48 + nT D) b3 (by decide) (by omega) (TT_h (by decide))
  obtain ⟨M5, a5, b5⟩ := l_ep (F := F) b4 (fun g => R_2 g (by omega) hF)
  obtain ⟨M6, a6, b6⟩ := l_put (F := F) (c := 48 + nSp D) b5 (by decide) (by omega) (TT_h (by decide))
  obtain ⟨M7, a7, b7⟩ := l_digits (F := F) (v := nDp D) (k := 3) (p3 := 1000) (by omega) b6 (by decide) rfl (by decide) (fun y hy => hd_3 (by omega))
  have b7' : T2 K M7 x A R.2 D 7 := b7
  obtain ⟨M8, a8, b8⟩ := l_ep (F := F) b7' (fun g => R_7 g (by omega) hF)
  obtain ⟨M9, a9, b9⟩ := l_t146 (F := F) hN hF (j := nZ D) (i := 0) (fu := 6) (by omega) (by have := nb_Z (D := D); omega) b8
  refine ⟨M9, ?_, b9⟩
  unfold f_L_told
  rw [n0, cal_s, x1, bnd_e, x2, bnd_e, x3, bnd_e, x4, bnd_e, a1, cal_s, a2, cal_s, if_pos rfl, show f_L_put F x (x + 386) (67 : Int32) M2 = some (1, M3) from a3, cal_s, if_neg (show ¬ (1 : Int32) = 0 by decide), x5, a4, cal_s, if_neg (show ¬ (1 : Int32) = 0 by decide), a5, cal_s, if_pos (show nI 2 = (2 : Int32) from rfl), x6, a6, cal_s, if_neg (show ¬ (1 : Int32) = 0 by decide), a7, cal_s, if_neg (show ¬ (1 : Int32) = 0 by decide), a8, cal_s, if_pos (show nI 7 = (7 : Int32) from rfl)]
  exact a9
end
