section
variable {F x K p a n i j : Nat} {M M' : zMi} {A P : Pg} {D : Nat → Nat}
def Re (F p a : Nat) (M : zMi) (i : Nat) : Prop := ∃ M', f_X7_readInto F p a M = some (nI i, M') ∧ frT p a M M'
theorem fu17 {m : Nat} {v : Int32} (hF : 101 ≤ F) (hm : 0 < m) : f_X7_readInto_17 F p a m v (tS p i 0 M) = some (nI i, tS p i 0 M) := by
  obtain ⟨q, rfl⟩ : ∃ q, m = q + 1 := ⟨m - 1, by omega⟩
  exact fl_17 hF
theorem fu56 {m : Nat} {v : Int32} (hF : 101 ≤ F) (hm : 0 < m) : f_X7_readInto_56 F p a m v (tS p i 0 M) = some (nI i, tS p i 0 M) := by
  obtain ⟨q, rfl⟩ : ∃ q, m = q + 1 := ⟨m - 1, by omega⟩
  exact fl_56 hF
theorem fuW {m : Nat} {v : Int32} (hm : 0 < m) : cal (f_X7_readWeather_8 F p a m v (tS p i 0 M)) (gW p) = some (nI i, tS p i 0 M) := by
  obtain ⟨q, rfl⟩ : ∃ q, m = q + 1 := ⟨m - 1, by omega⟩
  exact fl_W
theorem R_2 (hT : TX M p 2 (TT D)) (hp : p + 1 < a) (hF : 101 ≤ F) : Re F p a M 2 := by
  obtain ⟨M1, a1, a2⟩ := rH_no (F := F) hT hp hF
  exact ⟨_, by rw [c_readInto, a1, cal_s, fu17 hF (by omega)], frT_t a2 frT_s⟩
theorem R_7 (hT : TX M p 7 (TT D)) (hp : p + 1 < a) (hF : 101 ≤ F) : Re F p a M 7 := by
  obtain ⟨M1, a1, a2, -⟩ := st2 (F := F) (z := 0) hT hp hF (Nat.zero_le _) (Nat.le_refl _)
  obtain ⟨M2, b1, b2⟩ := zone_f (F := F) (i := 7) (TX_f hT hp a2) hp (Nat.le_refl _) (fun y => absurd y.1 (Nat.lt_irrefl _)) hF
  refine ⟨tS p 7 0 M2, ?_, frT_t a2 (frT_t b2 frT_s)⟩
  rw [a1, show F - 0 = (F - 1) + 1 by omega, f_X7_readInto_17, tS_3, if_neg (show ¬ (1 : Int32) = 0 by decide), if_pos (show nI 0 < (9 : Int32) by decide), if_pos (show nI 0 = (0 : Int32) from rfl), show f_X7_readZone F p a (tS p (7 + 8 * 0) 1 M1) = some (tS p 7 0 M2) from b1, cal_s, fu17 hF (by omega)]
theorem R_z5 (hT : TX M p n (TT D)) (hp : p + 1 < a) (hF : 101 ≤ F) (hj : j < nZ D) (hn : n = 7 + 8 * j + 5) : Re F p a M n := by
  have z4 := nb_Z (D := D)
  obtain ⟨M1, a1, a2, -⟩ := st2 (F := F) (z := j) hT hp hF (by omega) (by omega)
  have hT1 := TX_f hT hp a2
  obtain ⟨M2, b1, b2⟩ := rZ_no (F := F) (j := j) hT1 hp hj hn hF
  refine ⟨tS p n 0 M2, ?_, frT_t a2 (frT_t b2 frT_s)⟩
  rw [a1, show F - j = (F - (j + 1)) + 1 by omega, f_X7_readInto_17, tS_3, if_neg (show ¬ (1 : Int32) = 0 by decide), if_pos (show nI j < (9 : Int32) from nI_lt (b := 9) (by omega) (by decide))]
  by_cases c : j = 0
  · subst c
    rw [if_pos (show nI 0 = (0 : Int32) from rfl), b1, cal_s, fu17 hF (by omega)]
  · rw [if_neg (nI_ne0 (by omega) (by omega)), show f_X7_nextIs F p (122 : Int32) (tS p (7 + 8 * j) 1 M1) = some 1 from nx_y (c := 122) hT1 (by omega) (TT_z (k := 0) (by omega) (by decide)) (by decide), cal_s, if_neg (show ¬ (1 : Int32) = 0 by decide), b1, cal_s, fu17 hF (by omega)]
theorem R_z8 (hT : TX M p n (TT D)) (hp : p + 1 < a) (hF : 101 ≤ F) (j1 : 1 ≤ j) (hj : j ≤ nZ D) (hn : n = 7 + 8 * j) : Re F p a M n := by
  obtain ⟨M1, a1, a2, -⟩ := st3 (F := F) (z := j) hT hp hF j1 hj (by omega) (by omega)
  have hT1 := TX_f hT hp a2
  obtain ⟨M2, b1, b2⟩ := ship_f (F := F) (i := n) hT1 hp (Nat.le_refl _) (by omega) hF
  obtain ⟨m, hm⟩ : ∃ m, F = m + 1 := ⟨F - 1, by omega⟩
  refine ⟨tS p n 0 M2, ?_, frT_t a2 (frT_t b2 frT_s)⟩
  have e : f_X7_readInto_56 F p a (m + 1) 0 (tS p n 1 M1) = some (nI n, tS p n 0 M2) := by
    rw [f_X7_readInto_56, tS_3, if_neg (show ¬ (1 : Int32) = 0 by decide), if_pos (show (0 : Int32) < (4 : Int32) by decide), if_pos rfl, b1, cal_s, fu56 hF (by omega)]
  rw [a1, ← hn, ← e, ← hm]
theorem R_s7 (hT : TX M p n (TT D)) (hp : p + 1 < a) (hF : 101 ≤ F) (hj : j < nSh D) (hn : n = sz0 D + 9 * j + 7) : Re F p a M n := by
  have s4 := nb_S (D := D)
  obtain ⟨M1, a1, a2, -⟩ := st4 (F := F) (i := j) hT hp hF (by omega) (by omega)
  have hT1 := TX_f hT hp a2
  obtain ⟨M2, b1, b2⟩ := rS_no (F := F) (j := j) hT1 hp hj hn hF
  refine ⟨tS p n 0 M2, ?_, frT_t a2 (frT_t b2 frT_s)⟩
  rw [a1, show F - j = (F - (j + 1)) + 1 by omega, f_X7_readInto_56, tS_3, if_neg (show ¬ (1 : Int32) = 0 by decide), if_pos (show nI j < (4 : Int32) from nI_lt (b := 4) (by omega) (by decide))]
  by_cases c : j = 0
  · subst c
    rw [if_pos (show nI 0 = (0 : Int32) from rfl), b1, cal_s, fu56 hF (by omega)]
  · rw [if_neg (nI_ne0 (by omega) (by omega)), show f_X7_nextIs F p (115 : Int32) (tS p (sz0 D + 9 * j) 1 M1) = some 1 from nx_y (c := 115) hT1 (by omega) (TT_s (k := 0) (by omega) (by decide)) (by decide), cal_s, if_neg (show ¬ (1 : Int32) = 0 by decide), b1, cal_s, fu56 hF (by omega)]
theorem R_s9 (hT : TX M p n (TT D)) (hp : p + 1 < a) (hF : 101 ≤ F) (j1 : 1 ≤ j) (hj : j ≤ nSh D) (hn : n = sz0 D + 9 * j) : Re F p a M n := by
  obtain ⟨M1, a1, a2, -⟩ := st5 (F := F) (i := j) hT hp hF j1 hj (by omega) (by omega)
  have hT1 := TX_f hT hp a2
  have eL : f_X7_readLetter F p (119 : Int32) (tS p n 1 M1) = some (tS p n 0 M1) := by
    have := c_let (F := F) (c := 119) (i := n) hT1 (Nat.le_refl _) (by decide)
    rw [if_neg (fun y => absurd y.1 (Nat.lt_irrefl _))] at this
    exact this
  refine ⟨tS p n 0 M1, ?_, frT_t a2 frT_s⟩
  rw [a1, ← hn, rI92]
  unfold f_X7_readWeather
  rw [eL, cal_s, fuW (by omega)]
theorem w36_0 {q lo : Nat} {k : Int32 → zMi → Option zMi} {v : Int32} {N : zMi} (e1 : f_X7_readNumber F p 1 0 9 N = some (nI lo, tS p q 0 M)) (hp : p + 1 < a) : ∃ M2, f_X7_readWeather_36 F p a k v N = k (v + 1) (tS p q 0 M2) ∧ frT p a M M2 := by
  obtain ⟨N1, b1, b2⟩ := c_addWt (F := F) (a := a) (M := tS p q 0 M) (v := nI lo)
  refine ⟨N1, ?_, frT_t frT_s (frT_f (by omega) b2)⟩
  unfold f_X7_readWeather_36
  rw [e1, cal_s, b1, cal_s, tS_f (by omega) b2]
theorem R_w0 (hT : TX M p n (TT D)) (hp : p + 1 < a) (hF : 101 ≤ F) (hn : n = sz D + 1) : Re F p a M n := by
  have w1 := nb_W (D := D)
  obtain ⟨M1, a1, a2, -⟩ := st7 (F := F) (d := 0) hT hp hF (Nat.zero_le _) (by omega)
  have hT1 := TX_f hT hp a2
  have e1 : f_X7_readNumber F p 1 0 9 (tS p n 1 M1) = some (nI 0, tS p n 0 M1) := nu_e (dg := 0) (lo := 0) (hi := 9) hT1 (by decide) (by decide) (by decide) hF
  obtain ⟨M2, b1, b2⟩ := w36_0 (F := F) (a := a) (k := f_X7_readWeather_8 F p a (F - 1)) (v := nI 0) e1 hp
  refine ⟨tS p n 0 M2, ?_, frT_t a2 (frT_t b2 frT_s)⟩
  rw [a1, show F - 0 = (F - 1) + 1 by omega, f_X7_readWeather_8, tS_3, if_neg (show ¬ (1 : Int32) = 0 by decide), if_pos (show nI 0 < (30 : Int32) by decide), if_pos (show nI 0 = (0 : Int32) from rfl), show sz D + 1 + 0 = n by omega, b1, fuW (by omega)]
/-- the text is whole from the first wave on -/
theorem R_wO {d : Nat} (hT : TX M p n (TT D)) (hp : p + 1 < a) (hF : 101 ≤ F) (d1 : 1 ≤ d) (hd : d ≤ nWd D) (hn : n = sz D + 1 + d) : ∃ M', f_X7_readInto F p a M = some (-9, M') ∧ frT p a M M' ∧ RCv M' a (Pv D d) := by
  have w1 := nb_W (D := D)
  obtain ⟨M1, a1, a2, a3⟩ := st7 (F := F) (d := d) hT hp hF hd (by omega)
  have hT1 := TX_f hT hp a2
  refine ⟨tS p n 1 M1, ?_, frT_t a2 frT_s, RC_fr a3 (fun q y1 y2 => tS_q (by omega))⟩
  rw [a1, show F - d = (F - (d + 1)) + 1 by omega, f_X7_readWeather_8, tS_3, if_neg (show ¬ (1 : Int32) = 0 by decide), if_pos (show nI d < (30 : Int32) from nI_lt (b := 30) (by omega) (by decide)), if_neg (nI_ne0 (by omega) (by omega)), ← hn, tS_2, tS_k (by decide) (by decide), hT1.2.1, if_neg (nI_nlt (Nat.le_refl _) (by have := hT.1; omega))]
  unfold f_X7_readWeather_57
  rw [tS_3, if_neg (show ¬ (1 : Int32) = 0 by decide), tS_2, tS_k (by decide) (by decide), hT1.2.1, if_pos rfl, tS_w3, bnd_e, cal_s]
  unfold gW
  rw [tS_3, if_neg (show ¬ (1 : Int32) = 0 by decide)]
/-- a letter behind the last wave -/
theorem R_wE (hT : TX M p n (TT D)) (hp : p + 1 < a) (hF : 101 ≤ F) (hn : n = sz D + 1 + nWd D + 1) : Re F p a M (sz D + 1 + nWd D) := by
  have w1 := nb_W (D := D)
  obtain ⟨M1, a1, a2, -⟩ := st7 (F := F) (d := nWd D) hT hp hF (Nat.le_refl _) (by omega)
  have hT1 := TX_f hT hp a2
  have er : rdN n (TT D) 0 9 (0 + 1) 0 (sz D + 1 + nWd D) = (false, 0, sz D + 1 + nWd D) := by
    rw [rdN, if_neg (fun y => by have := y.2.2.1; rw [TT_e] at this; omega)]
  have e1 : f_X7_readNumber F p 1 0 9 (tS p (sz D + 1 + nWd D) 1 M1) = some (nI 0, tS p (sz D + 1 + nWd D) 0 M1) := c_nu0 (dg := 1) (lo := 0) (hi := 9) hT1 er (by decide) (by decide) (by decide) (by omega) hF
  obtain ⟨M2, b1, b2⟩ := w36_0 (F := F) (a := a) (k := f_X7_readWeather_8 F p a (F - (nWd D + 1))) (v := nI (nWd D)) e1 hp
  refine ⟨tS p (sz D + 1 + nWd D) 0 M2, ?_, frT_t a2 (frT_t b2 frT_s)⟩
  rw [a1, show F - nWd D = (F - (nWd D + 1)) + 1 by omega, f_X7_readWeather_8, tS_3, if_neg (show ¬ (1 : Int32) = 0 by decide), if_pos (show nI (nWd D) < (30 : Int32) from nI_lt (b := 30) (by omega) (by decide)), if_neg (nI_ne0 (by omega) (by omega)), tS_2, tS_k (by decide) (by decide), hT1.2.1, if_pos (nI_lt (by omega) (by have := hT.1; omega)), b1, fuW (by omega)]
-- ---- the page that is told
noncomputable def dB (D : Nat → Nat) : Pg := pU (Pv D (nWd D)) 16 (Pv D (nWd D) 2)
theorem uP_o {P : Pg} {d v k : Nat} (h6 : k ≠ 6) (hk : k < 91) : uP P d v k = P k := by
  unfold uP; rw [pU_n h6, pU_n (by omega)]
theorem hP_o {P : Pg} {s c v w r k : Nat} (h5 : k ≠ 5) (hk : k < 59 + 8 * s ∨ 59 + 8 * s + 3 < k) : hP P s c v w r k = P k := by
  unfold hP; rw [pU_n h5, pU_n (by omega), pU_n (by omega), pU_n (by omega), pU_n (by omega)]
theorem zP_o {P : Pg} {z l f t s k : Nat} (h4 : k ≠ 4) (hk : k < 23 + 4 * z ∨ 23 + 4 * z + 3 < k) : zP P z l f t s k = P k := by
  unfold zP; rw [pU_n h4, pU_n (by omega), pU_n (by omega), pU_n (by omega), pU_n (by omega)]
theorem Pv_o {d k : Nat} (h6 : k ≠ 6) (hk : k < 91) : Pv D d k = Ph D (nSh D) k := by
  induction d with
  | zero => rfl
  | succ d ih => exact (uP_o h6 hk).trans ih
theorem Ph_o {i k : Nat} (h5 : k ≠ 5) (hk : k < 59) : Ph D i k = Pz D (nZ D) k := by
  induction i with
  | zero => rfl
  | succ i ih => exact (hP_o h5 (by omega)).trans ih
theorem Pz_o {z k : Nat} (h4 : k ≠ 4) (hk : k < 23) : Pz D z k = P_h D k := by
  induction z with
  | zero => rfl
  | succ z ih => exact (zP_o h4 (by omega)).trans ih
theorem Ph_s {i s : Nat} (hs : s < i) (hi : i ≤ 4) : Ph D i (59 + 8 * s) = nI (kC D s) ∧ Ph D i (59 + 8 * s + 1) = nI (kV D s) ∧ Ph D i (59 + 8 * s + 3) = nI (kR D s) := by
  induction i with
  | zero => omega
  | succ i ih =>
    by_cases c : s = i
    · subst c
      show hP _ _ _ _ _ _ _ = _ ∧ hP _ _ _ _ _ _ _ = _ ∧ hP _ _ _ _ _ _ _ = _
      unfold hP
      refine ⟨?_, ?_, ?_⟩
      · rw [pU_n (by omega), pU_n (by omega), pU_n (by omega), pU_n (by omega), pU_s]
      · rw [pU_n (by omega), pU_n (by omega), pU_n (by omega), pU_s]
      · rw [pU_n (by omega), pU_s]
    · obtain ⟨g1, g2, g3⟩ := ih (by omega) (by omega)
      exact ⟨(hP_o (by omega) (by omega)).trans g1, (hP_o (by omega) (by omega)).trans g2, (hP_o (by omega) (by omega)).trans g3⟩
theorem Pz_f {i z : Nat} (hz : z < i) : Pz D i (23 + 4 * z + 1) = nI (zF D z) ∧ Pz D i (23 + 4 * z + 2) = nI (zT D z) := by
  induction i with
  | zero => omega
  | succ i ih =>
    by_cases c : z = i
    · subst c
      show zP _ _ _ _ _ _ _ = _ ∧ zP _ _ _ _ _ _ _ = _
      unfold zP
      refine ⟨?_, ?_⟩
      · rw [pU_n (by omega), pU_n (by omega), pU_n (by omega), pU_s]
      · rw [pU_n (by omega), pU_n (by omega), pU_s]
    · obtain ⟨g1, g2⟩ := ih (by omega)
      exact ⟨(zP_o (by omega) (by omega)).trans g1, (zP_o (by omega) (by omega)).trans g2⟩
theorem Pv_2 {d : Nat} : Pv D d 2 = nI (nDp D) := by
  rw [Pv_o (by decide) (by decide), Ph_o (by decide) (by decide), Pz_o (by decide) (by decide)]
  unfold P_h
  exact pU_s
theorem WS_B : WS 0 (dB D) := by
  have w := nb_W (D := D)
  have z := nb_Z (D := D)
  have s := nb_S (D := D)
  have pw := PWv (D := D) (d := nWd D) (by omega)
  have hW := PW_WF pw z.1 (by omega) s.1 s.2 w.1 (by omega)
  obtain ⟨p0, p1, p2, p4, p5, p6, p3, p7, pz, ps, pn, p8⟩ := pw
  have o : ∀ k, k ≠ 16 → dB D k = Pv D (nWd D) k := fun k h => by unfold dB; exact pU_n h
  have q8 : ∀ s k, s < 4 → 4 ≤ k → k < 8 → dB D (59 + 8 * s + k) = 0 := fun s k hs h4 h8 => by rw [o _ (by omega)]; exact p8 s hs k h4 h8
  have q7 : ∀ k, 7 ≤ k → k ≤ 22 → k ≠ 16 → dB D k = 0 := fun k h1 h2 h3 => by rw [o k h3]; exact p7 k h1 h2
  refine ⟨hW, ?_, fun t ht h5 => ?_, fun t ht => ?_, ?_, ?_, ?_, ?_, fun t ht h4 => ?_⟩
  · rw [o 4 (by decide), p4]; exact nI_le (b := 4) z.2 (by decide)
  · rw [o 5 (by decide), p5] at h5
    have hts := (nI_ltI (by omega) (by omega)).mp h5
    obtain ⟨g1, g2, g3⟩ := Ph_s (D := D) hts s.2
    have c := kb_C (D := D) (j := t)
    have v := kb_V (D := D) (j := t)
    have r := kb_R (D := D) (j := t)
    rw [o _ (by omega), o _ (by omega), o _ (by omega), Pv_o (by omega) (by omega), Pv_o (by omega) (by omega), Pv_o (by omega) (by omega), g1, g2, g3]
    exact ⟨nI_le (b := 159) c.2 (by decide), nI_le (a := 1) v.1 (by omega), nI_pos' (by omega), nI_le (b := 99) r.2 (by decide)⟩
  · unfold sDl
    rw [q8 t 5 ht (by decide) (by decide), q8 t 6 ht (by decide) (by decide)]
    exact ⟨fun y => by rcases y with y | y <;> exact absurd y (by decide), fun _ _ => rfl⟩
  · have x16 : dB D 16 = dB D 2 := by unfold dB; rw [pU_s, pU_n (by decide)]
    have a0 : dB D 63 = 0 := q8 0 4 (by decide) (by decide) (by decide)
    have a1 : dB D 71 = 0 := q8 1 4 (by decide) (by decide) (by decide)
    have a2 : dB D 79 = 0 := q8 2 4 (by decide) (by decide) (by decide)
    have a3 : dB D 87 = 0 := q8 3 4 (by decide) (by decide) (by decide)
    have b0 : dB D 66 = 0 := q8 0 7 (by decide) (by decide) (by decide)
    have b1 : dB D 74 = 0 := q8 1 7 (by decide) (by decide) (by decide)
    have b2 : dB D 82 = 0 := q8 2 7 (by decide) (by decide) (by decide)
    have b3 : dB D 90 = 0 := q8 3 7 (by decide) (by decide) (by decide)
    unfold sAc dAb dOwn dLen
    rw [a0, a1, a2, a3, b0, b1, b2, b3, q7 17 (by decide) (by decide) (by decide), q7 18 (by decide) (by decide) (by decide), q7 7 (by decide) (by decide) (by decide), q7 8 (by decide) (by decide) (by decide), x16]
    refine ⟨by grind, by decide, ?_⟩
    rw [if_neg (show ¬ (0 : Int32) < 0 by decide), if_neg (show ¬ (1 : Int32) < 0 by decide), if_neg (show ¬ (2 : Int32) < 0 by decide), if_neg (show ¬ (3 : Int32) < 0 by decide)]
    decide
  · unfold sCo
    rw [q7 19 (by decide) (by decide) (by decide), q7 20 (by decide) (by decide) (by decide)]
    exact ⟨by decide, by decide, by decide⟩
  · rw [q7 9 (by decide) (by decide) (by decide)]; decide
  · rw [q7 9 (by decide) (by decide) (by decide)]; decide
  · rw [o 4 (by decide), p4] at h4
    have htz := (nI_ltI (by omega) (by omega)).mp h4
    obtain ⟨g1, g2⟩ := Pz_f (D := D) htz
    have t9 := zb_T (D := D) (j := t)
    rw [o _ (by omega), o _ (by omega), Pv_o (by omega) (by omega), Pv_o (by omega) (by omega), Ph_o (by omega) (by omega), Ph_o (by omega) (by omega), g1, g2]
    exact nI_le t9.1 (by omega)
end
