section
variable {F x K p a n i j : Nat} {M M' : zMi} {A P : Pg} {D : Nat → Nat}
theorem let_y {c : Nat} (hT : TX M p n (TT D)) (hi : i < n) (e : TT D i = c) (hc : c < 256) : f_X7_readLetter F p (nI c) (tS p i 1 M) = some (tS p (i + 1) 1 M) := by
  rw [c_let hT (by omega) hc, if_pos ⟨hi, e⟩]
theorem nu_y {lo hi dg v : Nat} (hT : TX M p n (TT D)) (h1 : lo ≤ v) (h2 : v ≤ hi) (hv : v < 10 ^ dg) (h3 : i + dg ≤ n) (h4 : ∀ j, j < dg → TT D (i + j) = 48 + v / 10 ^ (dg - 1 - j) % 10) (hlo : lo ≤ 9999) (hhi : hi ≤ 9999) (hdg : dg ≤ 4) (hF : 101 ≤ F) : f_X7_readNumber F p (nI dg) (nI lo) (nI hi) (tS p i 1 M) = some (nI v, tS p (i + dg) 1 M) :=
  c_nu1 hT (rdT h1 h2 hv h3 h4) hlo hhi hdg (by omega) hF
theorem nu_e {lo hi dg : Nat} (hT : TX M p n (TT D)) (hlo : lo ≤ 9999) (hhi : hi ≤ 9999) (hdg : dg + 1 ≤ 4) (hF : 101 ≤ F) : f_X7_readNumber F p (nI (dg + 1)) (nI lo) (nI hi) (tS p n 1 M) = some (nI 0, tS p n 0 M) :=
  c_nu0 hT rdE hlo hhi hdg (Nat.le_refl _) hF
theorem dg1 {v k : Nat} (h : v ≤ 9) (hk : k < 1) : 48 + v = 48 + v / 10 ^ (1 - 1 - k) % 10 := by
  rw [show 1 - 1 - k = 0 by omega, Nat.pow_zero, Nat.div_one, Nat.mod_eq_of_lt (by omega)]
theorem zn_1 (hj : j < nZ D) {k : Nat} (hk : k < 2) : TT D (7 + 8 * j + 1 + k) = 48 + zL D j / 10 ^ (2 - 1 - k) % 10 := by
  rw [show 7 + 8 * j + 1 + k = 7 + 8 * j + (1 + k) by omega, TT_z hj (by omega)]
  unfold znT
  rw [if_neg (by omega), if_pos (by omega), show 2 - (1 + k) = 2 - 1 - k by omega]
theorem zn_2 (hj : j < nZ D) {k : Nat} (hk : k < 2) : TT D (7 + 8 * j + 1 + 2 + k) = 48 + zF D j / 10 ^ (2 - 1 - k) % 10 := by
  rw [show 7 + 8 * j + 1 + 2 + k = 7 + 8 * j + (3 + k) by omega, TT_z hj (by omega)]
  unfold znT
  rw [if_neg (by omega), if_neg (by omega), if_pos (by omega), show 4 - (3 + k) = 2 - 1 - k by omega]
theorem zn_3 (hj : j < nZ D) {k : Nat} (hk : k < 2) : TT D (7 + 8 * j + 1 + 2 + 2 + k) = 48 + zT D j / 10 ^ (2 - 1 - k) % 10 := by
  rw [show 7 + 8 * j + 1 + 2 + 2 + k = 7 + 8 * j + (5 + k) by omega, TT_z hj (by omega)]
  unfold znT
  rw [if_neg (by omega), if_neg (by omega), if_neg (by omega), if_pos (by omega), show 6 - (5 + k) = 2 - 1 - k by omega]
theorem zn_4 (hj : j < nZ D) {k : Nat} (hk : k < 1) : TT D (7 + 8 * j + 1 + 2 + 2 + 2 + k) = 48 + zS D j / 10 ^ (1 - 1 - k) % 10 := by
  rw [← dg1 zb_S hk, show 7 + 8 * j + 1 + 2 + 2 + 2 + k = 7 + 8 * j + 7 by omega, TT_z hj (by omega)]
  unfold znT
  rw [if_neg (by omega), if_neg (by omega), if_neg (by omega), if_neg (by omega)]
theorem sh_1 (hj : j < nSh D) {k : Nat} (hk : k < 3) : TT D (sz0 D + 9 * j + 1 + k) = 48 + kC D j / 10 ^ (3 - 1 - k) % 10 := by
  rw [show sz0 D + 9 * j + 1 + k = sz0 D + 9 * j + (1 + k) by omega, TT_s hj (by omega)]
  unfold shT
  rw [if_neg (by omega), if_pos (by omega), show 3 - (1 + k) = 3 - 1 - k by omega]
theorem sh_2 (hj : j < nSh D) {k : Nat} (hk : k < 2) : TT D (sz0 D + 9 * j + 1 + 3 + k) = 48 + kV D j / 10 ^ (2 - 1 - k) % 10 := by
  rw [show sz0 D + 9 * j + 1 + 3 + k = sz0 D + 9 * j + (4 + k) by omega, TT_s hj (by omega)]
  unfold shT
  rw [if_neg (by omega), if_neg (by omega), if_pos (by omega), show 5 - (4 + k) = 2 - 1 - k by omega]
theorem sh_3 (hj : j < nSh D) {k : Nat} (hk : k < 1) : TT D (sz0 D + 9 * j + 1 + 3 + 2 + k) = 48 + kW D j / 10 ^ (1 - 1 - k) % 10 := by
  rw [← dg1 kb_W.2 hk, show sz0 D + 9 * j + 1 + 3 + 2 + k = sz0 D + 9 * j + 6 by omega, TT_s hj (by omega)]
  unfold shT
  rw [if_neg (by omega), if_neg (by omega), if_neg (by omega), if_pos rfl]
theorem sh_4 (hj : j < nSh D) {k : Nat} (hk : k < 2) : TT D (sz0 D + 9 * j + 1 + 3 + 2 + 1 + k) = 48 + kR D j / 10 ^ (2 - 1 - k) % 10 := by
  rw [show sz0 D + 9 * j + 1 + 3 + 2 + 1 + k = sz0 D + 9 * j + (7 + k) by omega, TT_s hj (by omega)]
  unfold shT
  rw [if_neg (by omega), if_neg (by omega), if_neg (by omega), if_neg (by omega), show 8 - (7 + k) = 2 - 1 - k by omega]
/-- a zone that is told -/
theorem rZ_ok (hT : TX M p n (TT D)) (hp : p + 1 < a) (hj : j < nZ D) (hi : 7 + 8 * j + 8 ≤ n) (h4 : P 4 = nI j) (hR : RCv M a P) (hF : 101 ≤ F) : ∃ M', f_X7_readZone F p a (tS p (7 + 8 * j) 1 M) = some (tS p (7 + 8 * (j + 1)) 1 M') ∧ frT p a M M' ∧ RCv M' a (zP P j (zL D j) (zF D j) (zT D j) (zS D j)) := by
  have z4 := nb_Z (D := D)
  have f := zb_F (D := D) (j := j)
  have t := zb_T (D := D) (j := j)
  have l := zb_L (D := D) (j := j)
  have s := zb_S (D := D) (j := j)
  have eL : f_X7_readLetter F p 122 (tS p (7 + 8 * j) 1 M) = some (tS p (7 + 8 * j + 1) 1 M) := let_y (c := 122) hT (by omega) (TT_z (k := 0) hj (by decide)) (by decide)
  have e1 : f_X7_readNumber F p 2 1 99 (tS p (7 + 8 * j + 1) 1 M) = some (nI (zL D j), tS p (7 + 8 * j + 1 + 2) 1 M) := nu_y (dg := 2) (lo := 1) (hi := 99) hT l.1 (by omega) (by have := l.2; show _ < 100; omega) (by omega) (fun k hk => zn_1 hj hk) (by decide) (by decide) (by decide) hF
  have e2 : f_X7_readNumber F p 2 0 99 (tS p (7 + 8 * j + 1 + 2) 1 M) = some (nI (zF D j), tS p (7 + 8 * j + 1 + 2 + 2) 1 M) := nu_y (dg := 2) (lo := 0) (hi := 99) hT (Nat.zero_le _) (by omega) (by show _ < 100; omega) (by omega) (fun k hk => zn_2 hj hk) (by decide) (by decide) (by decide) hF
  have e3 : f_X7_readNumber F p 2 (nI (zF D j)) 99 (tS p (7 + 8 * j + 1 + 2 + 2) 1 M) = some (nI (zT D j), tS p (7 + 8 * j + 1 + 2 + 2 + 2) 1 M) := nu_y (dg := 2) (hi := 99) hT t.1 t.2 (by have := t.2; show _ < 100; omega) (by omega) (fun k hk => zn_3 hj hk) (by omega) (by decide) (by decide) hF
  have e4 : f_X7_readNumber F p 1 0 9 (tS p (7 + 8 * j + 1 + 2 + 2 + 2) 1 M) = some (nI (zS D j), tS p (7 + 8 * j + 1 + 2 + 2 + 2 + 1) 1 M) := nu_y (dg := 1) (lo := 0) (hi := 9) hT (Nat.zero_le _) s (by show _ < 10; omega) (by omega) (fun k hk => zn_4 hj hk) (by decide) (by decide) (by decide) hF
  have hRt : RC (tS p (7 + 8 * j + 1 + 2 + 2 + 2 + 1) 1 M) a (pU P 16 (P 2)) := RC_fr hR (fun q y1 y2 => tS_q (by omega))
  obtain ⟨N1, b1, b2, b3⟩ := c_addZ (F := F) (v0 := nI (zL D j)) (v1 := nI (zF D j)) (v2 := nI (zT D j)) (v3 := nI (zS D j)) hRt (by rw [pU_n (by omega)]; exact h4) (by omega)
  refine ⟨N1, ?_, frT_t frT_s (frT_f (by omega) b2), ?_⟩
  · unfold f_X7_readZone
    simp only [eL, e1, e2, e3, e4, cal_s, b1]
    rw [show 7 + 8 * (j + 1) = 7 + 8 * j + 1 + 2 + 2 + 2 + 1 by omega, tS_f (by omega) b2]
  · unfold RCv; rw [v_z]; exact b3
/-- a zone whose last day is wanting -/
theorem rZ_no (hT : TX M p n (TT D)) (hp : p + 1 < a) (hj : j < nZ D) (hn : n = 7 + 8 * j + 5) (hF : 101 ≤ F) : ∃ M', f_X7_readZone F p a (tS p (7 + 8 * j) 1 M) = some (tS p n 0 M') ∧ frT p a M M' := by
  have f := zb_F (D := D) (j := j)
  have l := zb_L (D := D) (j := j)
  have eL : f_X7_readLetter F p 122 (tS p (7 + 8 * j) 1 M) = some (tS p (7 + 8 * j + 1) 1 M) := let_y (c := 122) hT (by omega) (TT_z (k := 0) hj (by decide)) (by decide)
  have e1 : f_X7_readNumber F p 2 1 99 (tS p (7 + 8 * j + 1) 1 M) = some (nI (zL D j), tS p (7 + 8 * j + 1 + 2) 1 M) := nu_y (dg := 2) (lo := 1) (hi := 99) hT l.1 (by omega) (by have := l.2; show _ < 100; omega) (by omega) (fun k hk => zn_1 hj hk) (by decide) (by decide) (by decide) hF
  have e2 : f_X7_readNumber F p 2 0 99 (tS p (7 + 8 * j + 1 + 2) 1 M) = some (nI (zF D j), tS p n 1 M) := by
    rw [hn, show 7 + 8 * j + 5 = 7 + 8 * j + 1 + 2 + 2 by omega]
    exact nu_y (dg := 2) (lo := 0) (hi := 99) hT (Nat.zero_le _) (by omega) (by show _ < 100; omega) (by omega) (fun k hk => zn_2 hj hk) (by decide) (by decide) (by decide) hF
  have e3 : f_X7_readNumber F p 2 (nI (zF D j)) 99 (tS p n 1 M) = some (nI 0, tS p n 0 M) := nu_e (dg := 1) (hi := 99) hT (by omega) (by decide) (by decide) hF
  have z1 : f_X7_readNumber F p (1 : Int32) 0 9 (tS p n 0 M) = some (0, tS p n 0 M) := c_num0 (dg := 1) (by decide) hF
  obtain ⟨N1, b1, b2⟩ := c_addZt (F := F) (a := a) (M := tS p n 0 M) (v0 := nI (zL D j)) (v1 := nI (zF D j)) (v2 := nI 0) (v3 := 0)
  refine ⟨N1, ?_, frT_t frT_s (frT_f (by omega) b2)⟩
  unfold f_X7_readZone
  simp only [eL, e1, e2, e3, z1, cal_s, b1]
  rw [tS_f (by omega) b2]
/-- a ship that is told -/
theorem rS_ok (hT : TX M p n (TT D)) (hp : p + 1 < a) (hj : j < nSh D) (hi : sz0 D + 9 * j + 9 ≤ n) (h5 : P 5 = nI j) (h8 : ∀ k, 4 ≤ k → k < 8 → P (59 + 8 * j + k) = 0) (hR : RCv M a P) (hF : 101 ≤ F) : ∃ M', f_X7_readShip F p a (tS p (sz0 D + 9 * j) 1 M) = some (tS p (sz0 D + 9 * (j + 1)) 1 M') ∧ frT p a M M' ∧ RCv M' a (hP P j (kC D j) (kV D j) (kW D j) (kR D j)) := by
  have s4 := nb_S (D := D)
  have c := kb_C (D := D) (j := j)
  have v := kb_V (D := D) (j := j)
  have w := kb_W (D := D) (j := j)
  have r := kb_R (D := D) (j := j)
  have eL : f_X7_readLetter F p 115 (tS p (sz0 D + 9 * j) 1 M) = some (tS p (sz0 D + 9 * j + 1) 1 M) := let_y (c := 115) hT (by omega) (TT_s (k := 0) hj (by decide)) (by decide)
  have e1 : f_X7_readNumber F p 3 10 999 (tS p (sz0 D + 9 * j + 1) 1 M) = some (nI (kC D j), tS p (sz0 D + 9 * j + 1 + 3) 1 M) := nu_y (dg := 3) (lo := 10) (hi := 999) hT c.1 (by omega) (by have := c.2; show _ < 1000; omega) (by omega) (fun k hk => sh_1 hj hk) (by decide) (by decide) (by decide) hF
  have e2 : f_X7_readNumber F p 2 1 20 (tS p (sz0 D + 9 * j + 1 + 3) 1 M) = some (nI (kV D j), tS p (sz0 D + 9 * j + 1 + 3 + 2) 1 M) := nu_y (dg := 2) (lo := 1) (hi := 20) hT v.1 v.2 (by have := v.2; show _ < 100; omega) (by omega) (fun k hk => sh_2 hj hk) (by decide) (by decide) (by decide) hF
  have e3 : f_X7_readNumber F p 1 1 9 (tS p (sz0 D + 9 * j + 1 + 3 + 2) 1 M) = some (nI (kW D j), tS p (sz0 D + 9 * j + 1 + 3 + 2 + 1) 1 M) := nu_y (dg := 1) (lo := 1) (hi := 9) hT w.1 w.2 (by have := w.2; show _ < 10; omega) (by omega) (fun k hk => sh_3 hj hk) (by decide) (by decide) (by decide) hF
  have e4 : f_X7_readNumber F p 2 1 99 (tS p (sz0 D + 9 * j + 1 + 3 + 2 + 1) 1 M) = some (nI (kR D j), tS p (sz0 D + 9 * j + 1 + 3 + 2 + 1 + 2) 1 M) := nu_y (dg := 2) (lo := 1) (hi := 99) hT r.1 r.2 (by have := r.2; show _ < 100; omega) (by omega) (fun k hk => sh_4 hj hk) (by decide) (by decide) (by decide) hF
  have hRt : RC (tS p (sz0 D + 9 * j + 1 + 3 + 2 + 1 + 2) 1 M) a (pU P 16 (P 2)) := RC_fr hR (fun q y1 y2 => tS_q (by omega))
  obtain ⟨N1, b1, b2, b3⟩ := c_addS (F := F) (sc := j) (v0 := nI (kC D j)) (v1 := nI (kV D j)) (v2 := nI (kW D j)) (v3 := nI (kR D j)) hRt (by rw [pU_n (by omega)]; exact h5) (by omega) (fun k k4 k8 => by rw [pU_n (by omega)]; exact h8 k k4 k8)
  refine ⟨N1, ?_, frT_t frT_s (frT_f (by omega) b2), ?_⟩
  · unfold f_X7_readShip
    simp only [eL, e1, e2, e3, e4, cal_s, b1]
    rw [show sz0 D + 9 * (j + 1) = sz0 D + 9 * j + 1 + 3 + 2 + 1 + 2 by omega, tS_f (by omega) b2]
  · unfold RCv; rw [v_h]; exact b3
/-- a ship whose rate is wanting -/
theorem rS_no (hT : TX M p n (TT D)) (hp : p + 1 < a) (hj : j < nSh D) (hn : n = sz0 D + 9 * j + 7) (hF : 101 ≤ F) : ∃ M', f_X7_readShip F p a (tS p (sz0 D + 9 * j) 1 M) = some (tS p n 0 M') ∧ frT p a M M' := by
  have c := kb_C (D := D) (j := j)
  have v := kb_V (D := D) (j := j)
  have w := kb_W (D := D) (j := j)
  have eL : f_X7_readLetter F p 115 (tS p (sz0 D + 9 * j) 1 M) = some (tS p (sz0 D + 9 * j + 1) 1 M) := let_y (c := 115) hT (by omega) (TT_s (k := 0) hj (by decide)) (by decide)
  have e1 : f_X7_readNumber F p 3 10 999 (tS p (sz0 D + 9 * j + 1) 1 M) = some (nI (kC D j), tS p (sz0 D + 9 * j + 1 + 3) 1 M) := nu_y (dg := 3) (lo := 10) (hi := 999) hT c.1 (by omega) (by have := c.2; show _ < 1000; omega) (by omega) (fun k hk => sh_1 hj hk) (by decide) (by decide) (by decide) hF
  have e2 : f_X7_readNumber F p 2 1 20 (tS p (sz0 D + 9 * j + 1 + 3) 1 M) = some (nI (kV D j), tS p (sz0 D + 9 * j + 1 + 3 + 2) 1 M) := nu_y (dg := 2) (lo := 1) (hi := 20) hT v.1 v.2 (by have := v.2; show _ < 100; omega) (by omega) (fun k hk => sh_2 hj hk) (by decide) (by decide) (by decide) hF
  have e3 : f_X7_readNumber F p 1 1 9 (tS p (sz0 D + 9 * j + 1 + 3 + 2) 1 M) = some (nI (kW D j), tS p n 1 M) := by
    rw [hn, show sz0 D + 9 * j + 7 = sz0 D + 9 * j + 1 + 3 + 2 + 1 by omega]
    exact nu_y (dg := 1) (lo := 1) (hi := 9) hT w.1 w.2 (by have := w.2; show _ < 10; omega) (by omega) (fun k hk => sh_3 hj hk) (by decide) (by decide) (by decide) hF
  have e4 : f_X7_readNumber F p 2 1 99 (tS p n 1 M) = some (nI 0, tS p n 0 M) := nu_e (dg := 1) (lo := 1) (hi := 99) hT (by decide) (by decide) (by decide) hF
  obtain ⟨N1, b1, b2⟩ := c_addSt (F := F) (a := a) (M := tS p n 0 M) (v0 := nI (kC D j)) (v1 := nI (kV D j)) (v2 := nI (kW D j)) (v3 := nI 0)
  refine ⟨N1, ?_, frT_t frT_s (frT_f (by omega) b2)⟩
  unfold f_X7_readShip
  simp only [eL, e1, e2, e3, e4, cal_s, b1]
  rw [tS_f (by omega) b2]
noncomputable def P_h (D : Nat → Nat) : Pg := pU (pU (pU (fun _ => 0) 0 (nI (nT D))) 1 (nI (nSp D))) 2 (nI (nDp D))
theorem hd_1 {k : Nat} (hk : k < 1) : TT D (1 + k) = 48 + nT D / 10 ^ (1 - 1 - k) % 10 := by
  have := nb_T (D := D)
  rw [← dg1 (by omega) hk, show 1 + k = 1 by omega, TT_h (by decide)]
  rfl
theorem hd_2 {k : Nat} (hk : k < 1) : TT D (2 + k) = 48 + nSp D / 10 ^ (1 - 1 - k) % 10 := by
  have := nb_P (D := D)
  rw [← dg1 (by omega) hk, show 2 + k = 2 by omega, TT_h (by decide)]
  rfl
theorem hd_3 {k : Nat} (hk : k < 4) : TT D (3 + k) = 48 + nDp D / 10 ^ (4 - 1 - k) % 10 := by
  rw [TT_h (by omega)]
  unfold hdT
  rw [if_neg (by omega), if_neg (by omega), if_neg (by omega), show 6 - (3 + k) = 4 - 1 - k by omega]
/-- a head that is told -/
theorem rH_ok (hT : TX M p n (TT D)) (hp : p + 1 < a) (hn : 7 ≤ n) (hF : 101 ≤ F) : ∃ M', f_X7_readHead F p a (tS p 0 1 M) = some (tS p 7 1 M') ∧ frT p a M M' ∧ RCv M' a (P_h D) := by
  have t := nb_T (D := D)
  have s := nb_P (D := D)
  have d := nb_D (D := D)
  have eL : f_X7_readLetter F p 67 (tS p 0 1 M) = some (tS p 1 1 M) := let_y (c := 67) (i := 0) hT (by omega) (TT_h (by decide)) (by decide)
  have e1 : f_X7_readNumber F p 1 1 3 (tS p 1 1 M) = some (nI (nT D), tS p 2 1 M) := nu_y (dg := 1) (lo := 1) (hi := 3) (i := 1) hT t.1 t.2 (by have := t.2; show _ < 10; omega) (by omega) (fun k hk => hd_1 hk) (by decide) (by decide) (by decide) hF
  have e2 : f_X7_readNumber F p 1 1 3 (tS p 2 1 M) = some (nI (nSp D), tS p 3 1 M) := nu_y (dg := 1) (lo := 1) (hi := 3) (i := 2) hT s.1 s.2 (by have := s.2; show _ < 10; omega) (by omega) (fun k hk => hd_2 hk) (by decide) (by decide) (by decide) hF
  have e3 : f_X7_readNumber F p 4 0 9999 (tS p 3 1 M) = some (nI (nDp D), tS p 7 1 M) := nu_y (dg := 4) (lo := 0) (hi := 9999) (i := 3) hT (Nat.zero_le _) (by omega) (by show _ < 10000; omega) (by omega) (fun k hk => hd_3 hk) (by decide) (by decide) (by decide) hF
  obtain ⟨N1, b1, b2, b3⟩ := c_beginX (F := F) (a := a) (M := tS p 7 1 M) (t := nI (nT D)) (d := nI (nSp D)) (dep := nI (nDp D)) (by omega)
  refine ⟨N1, ?_, frT_t frT_s (frT_f (by omega) b2), ?_⟩
  · unfold f_X7_readHead
    simp only [eL, e1, e2, e3, cal_s, b1]
    rw [tS_f (by omega) b2]
  · unfold RCv P_h
    refine b3 _ ?_ ?_ ?_ ?_ (fun k k0 k1 k2 k16 hk => ?_)
    · rw [pU_n (by omega), pU_n (by omega), pU_n (by omega), pU_s]
    · rw [pU_n (by omega), pU_n (by omega), pU_s]
    · rw [pU_n (by omega), pU_s]
    · rw [pU_s, pU_s]
    · rw [pU_n k16, pU_n k2, pU_n k1, pU_n k0]
/-- a head of two letters -/
theorem rH_no (hT : TX M p 2 (TT D)) (hp : p + 1 < a) (hF : 101 ≤ F) : ∃ M', f_X7_readHead F p a (tS p 0 1 M) = some (tS p 2 0 M') ∧ frT p a M M' := by
  have t := nb_T (D := D)
  have eL : f_X7_readLetter F p 67 (tS p 0 1 M) = some (tS p 1 1 M) := let_y (c := 67) (i := 0) hT (by omega) (TT_h (by decide)) (by decide)
  have e1 : f_X7_readNumber F p 1 1 3 (tS p 1 1 M) = some (nI (nT D), tS p 2 1 M) := nu_y (dg := 1) (lo := 1) (hi := 3) (i := 1) hT t.1 t.2 (by have := t.2; show _ < 10; omega) (by omega) (fun k hk => hd_1 hk) (by decide) (by decide) (by decide) hF
  have e2 : f_X7_readNumber F p 1 1 3 (tS p 2 1 M) = some (nI 0, tS p 2 0 M) := nu_e (dg := 0) (lo := 1) (hi := 3) hT (by decide) (by decide) (by decide) hF
  have e3 : f_X7_readNumber F p (4 : Int32) 0 9999 (tS p 2 0 M) = some (0, tS p 2 0 M) := c_num0 (dg := 4) (by decide) hF
  obtain ⟨N1, b1, b2, -⟩ := c_beginX (F := F) (a := a) (M := tS p 2 0 M) (t := nI (nT D)) (d := nI 0) (dep := 0) (by omega)
  refine ⟨N1, ?_, frT_t frT_s (frT_f (by omega) b2)⟩
  unfold f_X7_readHead
  simp only [eL, e1, e2, e3, cal_s, b1]
  rw [tS_f (by omega) b2]
end
