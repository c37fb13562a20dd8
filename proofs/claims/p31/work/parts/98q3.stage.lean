section
variable {F x K p a n i j : Nat} {M M' : zMi} {A P : Pg} {D : Nat → Nat}
noncomputable def Pz (D : Nat → Nat) : Nat → Pg
  | 0 => P_h D
  | z + 1 => zP (Pz D z) z (zL D z) (zF D z) (zT D z) (zS D z)
noncomputable def Ph (D : Nat → Nat) : Nat → Pg
  | 0 => Pz D (nZ D)
  | i + 1 => hP (Ph D i) i (kC D i) (kV D i) (kW D i) (kR D i)
noncomputable def Pv (D : Nat → Nat) : Nat → Pg
  | 0 => Ph D (nSh D)
  | d + 1 => uP (Pv D d) d (wV D d)
theorem PWz {z : Nat} (hz : z ≤ 9) : PW z 0 0 (Pz D z) := by
  induction z with
  | zero =>
    have t := nb_T (D := D)
    have s := nb_P (D := D)
    have d := nb_D (D := D)
    exact PW_0 (fun _ _ => rfl) t.1 t.2 s.1 s.2 (by omega)
  | succ z ih =>
    have l := zb_L (D := D) (j := z)
    have f := zb_F (D := D) (j := z)
    have t := zb_T (D := D) (j := z)
    exact PW_z (ih (by omega)) (by omega) l.1 (by omega) (by omega) t.2 zb_S
theorem PWh {i : Nat} (hi : i ≤ 4) : PW (nZ D) i 0 (Ph D i) := by
  induction i with
  | zero => exact PWz (by have := nb_Z (D := D); omega)
  | succ i ih =>
    have c := kb_C (D := D) (j := i)
    have v := kb_V (D := D) (j := i)
    exact PW_h (ih (by omega)) (by omega) (by omega) v.2
theorem PWv {d : Nat} (hd : d ≤ 30) : PW (nZ D) (nSh D) d (Pv D d) := by
  induction d with
  | zero => exact PWh nb_S.2
  | succ d ih => exact PW_w (ih (by omega)) (by omega)
theorem nx_y {c : Nat} (hT : TX M p n (TT D)) (hi : i < n) (e : TT D i = c) (hc : c < 256) : f_X7_nextIs F p (nI c) (tS p i 1 M) = some 1 := by
  rw [c_nextIs hT (by omega) hc, if_pos ⟨hi, e⟩]
theorem nx_n {c : Nat} (hT : TX M p n (TT D)) (hi : i ≤ n) (e : ¬ (i < n ∧ TT D i = c)) (hc : c < 256) : f_X7_nextIs F p (nI c) (tS p i 1 M) = some 0 := by
  rw [c_nextIs hT hi hc, if_neg e]
theorem st2 (hT : TX M p n (TT D)) (hp : p + 1 < a) (hF : 101 ≤ F) {z : Nat} : z ≤ nZ D → 7 + 8 * z ≤ n → ∃ M', f_X7_readInto F p a M = f_X7_readInto_17 F p a (F - z) (nI z) (tS p (7 + 8 * z) 1 M') ∧ frT p a M M' ∧ RCv M' a (Pz D z) := by
  induction z with
  | zero =>
    intro _ hn
    obtain ⟨M1, a1, a2, a3⟩ := rH_ok (F := F) hT hp (by omega) hF
    exact ⟨M1, by rw [c_readInto, a1]; rfl, a2, a3⟩
  | succ z ih =>
    intro hz hn
    have z4 := nb_Z (D := D)
    obtain ⟨M1, a1, a2, a3⟩ := ih (by omega) (by omega)
    have hT1 := TX_f hT hp a2
    obtain ⟨M2, b1, b2, b3⟩ := rZ_ok (F := F) (j := z) hT1 hp (by omega) (by omega) (PWz (by omega)).2.2.2.1 a3 hF
    refine ⟨M2, ?_, frT_t a2 b2, b3⟩
    rw [a1, show F - z = (F - (z + 1)) + 1 by omega, f_X7_readInto_17, tS_3, if_neg (show ¬ (1 : Int32) = 0 by decide), if_pos (show nI z < (9 : Int32) from nI_lt (b := 9) (by omega) (by decide))]
    by_cases c : z = 0
    · subst c
      rw [if_pos (show nI 0 = (0 : Int32) from rfl), b1, cal_s, ad1]
    · rw [if_neg (nI_ne0 (by omega) (by omega)), show f_X7_nextIs F p (122 : Int32) (tS p (7 + 8 * z) 1 M1) = some 1 from nx_y (c := 122) hT1 (by omega) (TT_z (k := 0) (by omega) (by decide)) (by decide), cal_s, if_neg (show ¬ (1 : Int32) = 0 by decide), b1, cal_s, ad1]
theorem st3 (hT : TX M p n (TT D)) (hp : p + 1 < a) (hF : 101 ≤ F) {z : Nat} (z1 : 1 ≤ z) (hz : z ≤ nZ D) (hn : 7 + 8 * z ≤ n) (hx : ¬ (7 + 8 * z < n ∧ TT D (7 + 8 * z) = 122)) : ∃ M', f_X7_readInto F p a M = f_X7_readInto_56 F p a F 0 (tS p (7 + 8 * z) 1 M') ∧ frT p a M M' ∧ RCv M' a (Pz D z) := by
  have z4 := nb_Z (D := D)
  obtain ⟨M1, a1, a2, a3⟩ := st2 (F := F) hT hp hF hz hn
  have hT1 := TX_f hT hp a2
  refine ⟨M1, ?_, a2, a3⟩
  rw [a1, show F - z = (F - (z + 1)) + 1 by omega, f_X7_readInto_17, tS_3, if_neg (show ¬ (1 : Int32) = 0 by decide), if_pos (show nI z < (9 : Int32) from nI_lt (b := 9) (by omega) (by decide)), if_neg (nI_ne0 (by omega) (by omega)), show f_X7_nextIs F p (122 : Int32) (tS p (7 + 8 * z) 1 M1) = some 0 from nx_n (c := 122) hT1 hn hx (by decide), cal_s, if_pos rfl]
theorem st4 (hT : TX M p n (TT D)) (hp : p + 1 < a) (hF : 101 ≤ F) {i : Nat} : i ≤ nSh D → sz0 D + 9 * i ≤ n → ∃ M', f_X7_readInto F p a M = f_X7_readInto_56 F p a (F - i) (nI i) (tS p (sz0 D + 9 * i) 1 M') ∧ frT p a M M' ∧ RCv M' a (Ph D i) := by
  induction i with
  | zero =>
    intro _ hn
    have z1 := nb_Z (D := D)
    have s1 := nb_S (D := D)
    have e : TT D (7 + 8 * nZ D) = 115 := TT_s (D := D) (j := 0) (k := 0) (by omega) (by decide)
    exact st3 hT hp hF z1.1 (Nat.le_refl _) hn (fun y => by rw [e] at y; exact absurd y.2 (by decide))
  | succ i ih =>
    intro hi hn
    have s4 := nb_S (D := D)
    obtain ⟨M1, a1, a2, a3⟩ := ih (by omega) (by omega)
    have hT1 := TX_f hT hp a2
    have pw := PWh (D := D) (i := i) (by omega)
    obtain ⟨M2, b1, b2, b3⟩ := rS_ok (F := F) (j := i) hT1 hp (by omega) (by omega) pw.2.2.2.2.1 (pw.2.2.2.2.2.2.2.2.2.2.2 i (by omega)) a3 hF
    refine ⟨M2, ?_, frT_t a2 b2, b3⟩
    rw [a1, show F - i = (F - (i + 1)) + 1 by omega, f_X7_readInto_56, tS_3, if_neg (show ¬ (1 : Int32) = 0 by decide), if_pos (show nI i < (4 : Int32) from nI_lt (b := 4) (by omega) (by decide))]
    by_cases c : i = 0
    · subst c
      rw [if_pos (show nI 0 = (0 : Int32) from rfl), b1, cal_s, ad1]
    · rw [if_neg (nI_ne0 (by omega) (by omega)), show f_X7_nextIs F p (115 : Int32) (tS p (sz0 D + 9 * i) 1 M1) = some 1 from nx_y (c := 115) hT1 (by omega) (TT_s (k := 0) (by omega) (by decide)) (by decide), cal_s, if_neg (show ¬ (1 : Int32) = 0 by decide), b1, cal_s, ad1]
theorem st5 (hT : TX M p n (TT D)) (hp : p + 1 < a) (hF : 101 ≤ F) {i : Nat} (i1 : 1 ≤ i) (hi : i ≤ nSh D) (hn : sz0 D + 9 * i ≤ n) (hx : ¬ (sz0 D + 9 * i < n ∧ TT D (sz0 D + 9 * i) = 115)) : ∃ M', f_X7_readInto F p a M = f_X7_readInto_92 F p a (tS p (sz0 D + 9 * i) 1 M') ∧ frT p a M M' ∧ RCv M' a (Ph D i) := by
  have s4 := nb_S (D := D)
  obtain ⟨M1, a1, a2, a3⟩ := st4 (F := F) hT hp hF hi hn
  have hT1 := TX_f hT hp a2
  refine ⟨M1, ?_, a2, a3⟩
  rw [a1, show F - i = (F - (i + 1)) + 1 by omega, f_X7_readInto_56, tS_3, if_neg (show ¬ (1 : Int32) = 0 by decide)]
  by_cases c : i = 4
  · subst c
    rw [if_neg (show ¬ nI 4 < (4 : Int32) by decide)]
  · rw [if_pos (show nI i < (4 : Int32) from nI_lt (b := 4) (by omega) (by decide)), if_neg (nI_ne0 (by omega) (by omega)), show f_X7_nextIs F p (115 : Int32) (tS p (sz0 D + 9 * i) 1 M1) = some 0 from nx_n (c := 115) hT1 hn hx (by decide), cal_s, if_pos rfl]
theorem st7 (hT : TX M p n (TT D)) (hp : p + 1 < a) (hF : 101 ≤ F) {d : Nat} : d ≤ nWd D → sz D + 1 + d ≤ n → ∃ M', f_X7_readInto F p a M = cal (f_X7_readWeather_8 F p a (F - d) (nI d) (tS p (sz D + 1 + d) 1 M')) (gW p) ∧ frT p a M M' ∧ RCv M' a (Pv D d) := by
  have hn160 := hT.1
  induction d with
  | zero =>
    intro _ hn
    have s1 := nb_S (D := D)
    have eW : TT D (sz D) = 119 := TT_w
    obtain ⟨M1, a1, a2, a3⟩ := st5 (F := F) (i := nSh D) hT hp hF s1.1 (Nat.le_refl _) (by show sz D ≤ n; omega) (fun y => by
      have e : TT D (sz0 D + 9 * nSh D) = 119 := eW
      rw [e] at y; exact absurd y.2 (by decide))
    have hT1 := TX_f hT hp a2
    refine ⟨M1, ?_, a2, a3⟩
    rw [a1, rI92]
    unfold f_X7_readWeather
    rw [show f_X7_readLetter F p (119 : Int32) (tS p (sz0 D + 9 * nSh D) 1 M1) = some (tS p (sz D + 1) 1 M1) from let_y (c := 119) (i := sz D) hT1 (by omega) eW (by decide), cal_s]
    rfl
  | succ d ih =>
    intro hd hn
    have w9 := nb_W (D := D)
    obtain ⟨M1, a1, a2, a3⟩ := ih (by omega) (by omega)
    have hT1 := TX_f hT hp a2
    have pw := PWv (D := D) (d := d) (by omega)
    have v := wb_V (D := D) (d := d)
    have e1 : f_X7_readNumber F p 1 0 9 (tS p (sz D + 1 + d) 1 M1) = some (nI (wV D d), tS p (sz D + 1 + d + 1) 1 M1) := nu_y (dg := 1) (lo := 0) (hi := 9) hT1 (Nat.zero_le _) v (by show _ < 10; omega) (by omega) (fun k hk => by rw [← dg1 v hk, show sz D + 1 + d + k = sz D + 1 + d by omega, TT_v (by omega)]) (by decide) (by decide) (by decide) hF
    have hRt : RC (tS p (sz D + 1 + d + 1) 1 M1) a (pU (Pv D d) 16 (Pv D d 2)) := RC_fr a3 (fun q y1 y2 => tS_q (by omega))
    obtain ⟨N1, b1, b2, b3⟩ := c_addW (F := F) (wc := d) (v := nI (wV D d)) hRt (by rw [pU_n (by omega)]; exact pw.2.2.2.2.2.1) (by omega)
    have e36 : ∀ k : Int32 → zMi → Option zMi, f_X7_readWeather_36 F p a k (nI d) (tS p (sz D + 1 + d) 1 M1) = k (nI (d + 1)) (tS p (sz D + 1 + (d + 1)) 1 N1) := fun k => by
      unfold f_X7_readWeather_36
      rw [e1, cal_s, b1, cal_s, ad1, show sz D + 1 + (d + 1) = sz D + 1 + d + 1 by omega, tS_f (by omega) b2]
    refine ⟨N1, ?_, frT_t a2 (frT_t frT_s (frT_f (by omega) b2)), ?_⟩
    · rw [a1, show F - d = (F - (d + 1)) + 1 by omega, f_X7_readWeather_8, tS_3, if_neg (show ¬ (1 : Int32) = 0 by decide), if_pos (show nI d < (30 : Int32) from nI_lt (b := 30) (by omega) (by decide))]
      by_cases c : d = 0
      · subst c
        rw [if_pos (show nI 0 = (0 : Int32) from rfl), e36]
      · rw [if_neg (nI_ne0 (by omega) (by omega)), tS_2, tS_k (by decide) (by decide), hT1.2.1, if_pos (nI_lt (by omega) (by omega)), e36]
    · unfold RCv
      show RC N1 a (pU (uP (Pv D d) d (wV D d)) 16 (uP (Pv D d) d (wV D d) 2))
      rw [v_w]; exact b3
end
