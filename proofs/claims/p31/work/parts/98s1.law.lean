section
variable {F x K n len : Nat} {M M' : zMi} {A : Pg} {R : Rs} {D : Nat → Nat} {xs : Nat → Int32}
def Tw (K : Nat) (M : zMi) (x : Nat) (A : Pg) (R : Rs) : Prop := Ob K M x A R ∧ Ob K M (x + 386) A R
theorem Go_p {f : Option (Int32 × zMi)} {A' : Pg} {R' : Rs} {B : Pg} {S : Rs} {v : Int32} {L : Nat} (g : Go f M x K A' R' v) (h : Ob L M (x + 386) B S) : ∃ M', f = some (v, M') ∧ Ob K M' x A' R' ∧ Ob L M' (x + 386) B S := by
  obtain ⟨M1, a1, a2, a3⟩ := g
  exact ⟨M1, a1, a2, Ob_x h a3 (by omega)⟩
theorem Go_q {f : Option (Int32 × zMi)} {A' : Pg} {R' : Rs} {B : Pg} {S : Rs} {v : Int32} {L : Nat} (g : Go f M (x + 386) K A' R' v) (h : Ob L M x B S) : ∃ M', f = some (v, M') ∧ Ob K M' (x + 386) A' R' ∧ Ob L M' x B S := by
  obtain ⟨M1, a1, a2, a3⟩ := g
  exact ⟨M1, a1, a2, Ob_x h a3 (by omega)⟩
theorem Tw_mono {K' : Nat} (h : Tw K M x A R) (hK : K ≤ K') (h2 : K' < 2000000) : Tw K' M x A R := ⟨Ob_mono h.1 hK h2, Ob_mono h.2 hK h2⟩
theorem rClr_set : rClr (rSet 0 A (rClr (rSet 0 A R))) = rClr (rSet 0 A R) := by
  unfold rClr rSet
  simp only [Prod.mk.injEq, true_and]
  funext t
  by_cases c : t = 0
  · rw [if_pos c, if_pos c]
  · rw [if_neg c, if_neg c]
theorem rClr_days {m : Nat} : rClr (rPs m A R) = rClr R := by
  have := rPs_1 (j := m) (A := A) (R := R)
  unfold rClr
  rw [this.1, this.2]
theorem l_law236 {p : Nat} {k86 : Int32 → Int32 → zMi → Option Int32} {k141 : Int32 → Int32 → Int32 → zMi → Option Int32} {t k a b : Nat} (hF : 1573 < F) (h : Tw K M x A R) (hK : K + 130 ≤ 9999) (hk : k < 12) (ha : a < 2147483648) (hb : b < 2147483648) (nx : ∀ M' R', Tw (K + 30) M' x A R' → k141 1 (nI t) (nI (k + 1)) M' = some 1) : f_L_law_236 F len xs x (x + 386) k86 k141 (nI t) (nI k) (nI a) (nI b) 1 M = some 1 := by
  unfold f_L_law_236
  rw [show nI k - nI k / (4 : Int32) * (4 : Int32) = nI (k % 4) from rem_N (by omega) (by decide) (by decide) rfl, ad1]
  by_cases c : nI (k % 4) = 3
  · have b5 := (t_b (F := F) h.1 (by omega)).2.1.2.1
    obtain ⟨M1, a1, p1, q1⟩ := Go_p (l_scripts h.1 hF (by omega) ha) h.2
    obtain ⟨M2, a2, q2, p2⟩ := Go_q (t_saveY (F := F) (s := 0) q1 (by omega) (by decide)) p1
    obtain ⟨M3, a3, p3, q3⟩ := Go_p (t_saveY (F := F) (s := 0) p2 (by omega) (by decide)) q2
    obtain ⟨M4, a4, p4, q4⟩ := Go_p (t_resY (F := F) (s := 0) (B := A) p3 (by omega) (by decide) rfl) q3
    obtain ⟨M5, a5, p5, q5⟩ := Go_p (l_hands p4 hF (by omega) hb) q4
    obtain ⟨M6, a6, p6, q6⟩ := Go_p (l_days (F := F) p5 (by omega) (by omega) hb) q5
    obtain ⟨M7, a7, p7, q7⟩ := Go_p (t_resY (F := F) (s := 0) (B := A) p6 (by omega) (by decide) (by rw [rPs_1.2]; rfl)) q6
    obtain ⟨M8, a8, q8, p8⟩ := Go_q (t_resY (F := F) (s := 0) (B := A) q7 (by omega) (by decide) rfl) p7
    rw [rClr_days] at p8
    have p8' : Ob (K + (1 + b % 25)) M8 x A (rClr (rSet 0 A R)) := by
      have e : rClr (rClr (rSet 0 A (rClr (rSet 0 A R)))) = rClr (rSet 0 A R) := by rw [show rClr (rClr (rSet 0 A (rClr (rSet 0 A R)))) = rClr (rSet 0 A (rClr (rSet 0 A R))) from rfl, rClr_set]
      rw [← e]; exact p8
    obtain ⟨M9, a9, p9, q9⟩ := Go_p (t_undoN (F := F) p8' rfl) q8
    have al := l_alike (F := F) p9 q9 (by omega)
    have hm : b % 25 < 25 := Nat.mod_lt _ (by decide)
    have tw : Tw (K + 30) M9 x A (rClr (rSet 0 A R)) := ⟨Ob_mono p9 (by omega) (by omega), Ob_mono q9 (by omega) (by omega)⟩
    rw [if_pos c, if_neg (show ¬ (1 : Int32) = 0 by decide), b5, cal_s, a1, cal_s, if_neg (show ¬ (1 : Int32) = 0 by decide), show f_L_trySave F (x + 386) (0 : Int32) M1 = some (A 3, M2) from a2, cal_s, if_pos rfl, show f_L_trySave F x (0 : Int32) M2 = some (A 3, M3) from a3, cal_s, if_pos rfl, show f_L_tryRestore F x (0 : Int32) M3 = some (A 3, M4) from a4, cal_s, if_pos rfl, a5, cal_s, if_neg (show ¬ (1 : Int32) = 0 by decide), a6, cal_s, if_neg (show ¬ (1 : Int32) = 0 by decide), show f_L_tryRestore F x (0 : Int32) M6 = some (A 3, M7) from a7, cal_s, if_pos rfl, show f_L_tryRestore F (x + 386) (0 : Int32) M7 = some (A 3, M8) from a8, cal_s, if_pos rfl, a9, cal_s, if_pos rfl, al, cal_s, if_neg (show ¬ (1 : Int32) = 0 by decide)]
    exact nx M9 _ tw
  · rw [if_neg c]
    exact nx M R (Tw_mono h (by omega) (by omega))
theorem l_law141 {t : Nat} {k86 : Int32 → Int32 → zMi → Option Int32} (hF : 1573 < F) (hl : len ≤ 260) (ht : t < 2) (hk : ∀ K M A R, Tw K M x A R → k86 1 (nI (t + 1)) M = some 1) {j : Nat} : ∀ {k fu : Nat} {M : zMi} {A : Pg} {R : Rs}, k + j = 12 → j < fu → Tw (130 * k) M x A R → f_L_law_141 F len xs x (x + 386) k86 fu 1 (nI t) (nI k) M = some 1 := by
  induction j with
  | zero =>
    intro k fu M A R hkj hf h
    obtain ⟨q, rfl⟩ : ∃ q, fu = q + 1 := ⟨fu - 1, by omega⟩
    have : k = 12 := by omega
    subst this
    rw [f_L_law_141, if_neg (show ¬ nI 12 < (12 : Int32) by decide), ad1]
    exact hk _ _ _ _ h
  | succ j ih =>
    intro k fu M A R hkj hf h
    obtain ⟨q, rfl⟩ : ∃ q, fu = q + 1 := ⟨fu - 1, by omega⟩
    have k12 : k < 12 := by omega
    obtain ⟨a, a31, na⟩ := l_numE (xs := xs) (40 * t + 11 + 2 * k) (by omega) hl
    obtain ⟨b, b31, nb⟩ := l_numE (xs := xs) (40 * t + 12 + 2 * k) (by omega) hl
    have e1 : (((40 : Int32) * nI t) + (11 : Int32)) + ((2 : Int32) * nI k) = nI (40 * t + 11 + 2 * k) := by
      rw [show (40 : Int32) * nI t = nI (40 * t) from nI_mul 40 t, show (2 : Int32) * nI k = nI (2 * k) from nI_mul 2 k, show nI (40 * t) + (11 : Int32) = nI (40 * t + 11) from nI_add _ 11, nI_add]
    have e2 : (((40 : Int32) * nI t) + (12 : Int32)) + ((2 : Int32) * nI k) = nI (40 * t + 12 + 2 * k) := by
      rw [show (40 : Int32) * nI t = nI (40 * t) from nI_mul 40 t, show (2 : Int32) * nI k = nI (2 * k) from nI_mul 2 k, show nI (40 * t) + (12 : Int32) = nI (40 * t + 12) from nI_add _ 12, nI_add]
    obtain ⟨v, A', R', hR1, ac⟩ := l_act (F := F) h.1 hF (by omega) a31 b31
    obtain ⟨M1, c1, p1, q1⟩ := Go_p (ac M x h.1) h.2
    obtain ⟨M2, c2, q2, p2⟩ := Go_q (ac M1 (x + 386) q1) p1
    obtain ⟨M3, c3, q3, p3⟩ := Go_q (l_refuses q2 hF) p2
    have al := l_alike (F := F) p3 q3 (by omega)
    have sn := l_sound (F := F) p3 (by omega)
    rw [f_L_law_141, if_pos (show nI k < (12 : Int32) from nI_lt (b := 12) k12 (by decide)), if_neg (show ¬ (1 : Int32) = 0 by decide), e1, na, cal_s, e2, nb, cal_s, c1, cal_s, c2, cal_s, if_pos rfl, c3, cal_s, if_neg (show ¬ (1 : Int32) = 0 by decide), al, cal_s, if_neg (show ¬ (1 : Int32) = 0 by decide), sn, cal_s, if_neg (show ¬ (1 : Int32) = 0 by decide)]
    exact l_law236 (p := 0) hF ⟨p3, q3⟩ (by omega) k12 a31 b31 (fun M' R'' g => ih (by omega) (by omega) (Tw_mono g (by omega) (by omega)))
theorem l_law86 (hF : 1573 < F) (hl : len ≤ 260) {j : Nat} : ∀ {t fu K : Nat} {M : zMi} {A : Pg} {R : Rs}, t + j = 2 → j < fu → Tw K M x A R → f_L_law_86 F len xs x (x + 386) fu 1 (nI t) M = some 1 := by
  induction j with
  | zero =>
    intro t fu K M A R htj hf h
    obtain ⟨q, rfl⟩ : ∃ q, fu = q + 1 := ⟨fu - 1, by omega⟩
    have : t = 2 := by omega
    subst this
    rw [f_L_law_86, if_neg (show ¬ nI 2 < (2 : Int32) by decide)]
  | succ j ih =>
    intro t fu K M A R htj hf h
    obtain ⟨q, rfl⟩ : ∃ q, fu = q + 1 := ⟨fu - 1, by omega⟩
    have t2 : t < 2 := by omega
    obtain ⟨D, hN⟩ := l_numD (xs := xs) (40 * t) (by omega) hl
    obtain ⟨M1, a1, tx, b1, b2, b3⟩ := l_told (F := F) (D := D) hN (by omega) h.1 h.2
    obtain ⟨M2, c2, q2, p2⟩ := Go_q (l_refuses b3 hF) b2
    have al := l_alike (F := F) p2 q2 (by omega)
    have sn := l_sound (F := F) p2 (by omega)
    rw [f_L_law_86, if_pos (show nI t < (2 : Int32) from nI_lt (b := 2) t2 (by decide)), if_neg (show ¬ (1 : Int32) = 0 by decide), show (40 : Int32) * nI t = nI (40 * t) from nI_mul 40 t, a1, cal_s, if_neg (show ¬ (1 : Int32) = 0 by decide), c2, cal_s, if_neg (show ¬ (1 : Int32) = 0 by decide), al, cal_s, if_neg (show ¬ (1 : Int32) = 0 by decide), sn, cal_s, if_neg (show ¬ (1 : Int32) = 0 by decide)]
    exact l_law141 hF hl t2 (fun K M A R g => ih (by omega) (by omega) g) (j := 12) (k := 0) (fu := 14) (by decide) (by decide) ⟨p2, q2⟩
-- ---- the start
theorem R_0 {p a : Nat} (hT : TX M p 0 (TT D)) (hp : p + 1 < a) (hF : 101 ≤ F) : Re F p a M 0 := by
  have eL : f_X7_readLetter F p 67 (tS p 0 1 M) = some (tS p 0 0 M) := by
    have := c_let (F := F) (c := 67) (i := 0) hT (Nat.le_refl _) (by decide)
    rw [if_neg (fun y => absurd y.1 (Nat.lt_irrefl _))] at this
    exact this
  have z4 : ∀ (y1 y2 : Int32), f_X7_readNumber F p (4 : Int32) y1 y2 (tS p 0 0 M) = some (0, tS p 0 0 M) := fun y1 y2 => c_num0 (dg := 4) (by decide) hF
  have z1 : ∀ (y1 y2 : Int32), f_X7_readNumber F p (1 : Int32) y1 y2 (tS p 0 0 M) = some (0, tS p 0 0 M) := fun y1 y2 => c_num0 (dg := 1) (by decide) hF
  obtain ⟨N1, b1, b2, -⟩ := c_beginX (F := F) (a := a) (M := tS p 0 0 M) (t := 0) (d := 0) (dep := 0) (by omega)
  refine ⟨tS p 0 0 N1, ?_, frT_t (frT_t frT_s (frT_f (by omega) b2)) frT_s⟩
  have e : f_X7_readHead F p a (tS p 0 1 M) = some (tS p 0 0 N1) := by
    unfold f_X7_readHead
    simp only [eL, z1, z4, cal_s, b1]
    rw [tS_f (by omega) b2]
  rw [c_readInto, e, cal_s, fu17 hF (by omega)]
theorem WS_Q : WS 0 Q_0 := by
  refine ⟨WF_Q, by decide +kernel, fun s hs h5 => ?_, fun s hs => ?_, ⟨by decide +kernel, by decide +kernel, by decide +kernel⟩, ⟨by decide +kernel, by decide +kernel, by decide +kernel⟩, by decide +kernel, by decide +kernel, fun z hz h4 => ?_⟩
  · have e5 : Q_0 5 = nI 1 := by decide +kernel
    rw [e5] at h5
    have := (nI_ltI (by omega) (by decide)).mp h5
    have : s = 0 := by omega
    subst this
    exact ⟨by decide +kernel, by decide +kernel, by decide +kernel, by decide +kernel⟩
  · have c : s = 0 ∨ s = 1 ∨ s = 2 ∨ s = 3 := by omega
    have e5 : Q_0 (59 + 8 * s + 5) = 0 := by rcases c with rfl | rfl | rfl | rfl <;> decide +kernel
    have e6 : Q_0 (59 + 8 * s + 6) = 0 := by rcases c with rfl | rfl | rfl | rfl <;> decide +kernel
    unfold sDl
    rw [e5, e6]
    exact ⟨fun y => by rcases y with y | y <;> exact absurd y (by decide), fun _ _ => rfl⟩
  · have e4 : Q_0 4 = nI 1 := by decide +kernel
    rw [e4] at h4
    have := (nI_ltI (by omega) (by decide)).mp h4
    have : z = 0 := by omega
    subst this
    decide +kernel
theorem Ob_start (hF : 101 ≤ F) : ∃ N, f_X10_init F x M = some N ∧ Ob 0 N x Q_0 ((0, fun _ => 0), Q0) ∧ ∀ q, (q < x + 1 ∨ x + 385 < q) → N q = M q := by
  obtain ⟨N, n1, n2, n3, n4, n5, n6, n7, n8⟩ := i10 (F := F) (x := x) (M := M) hF
  refine ⟨N, n1, ⟨⟨Nat.zero_le _, n4, fun j hj => absurd hj (Nat.not_lt_zero _)⟩, n2, WS_Q, ⟨Nat.zero_le _, 0, by decide, n5, n6, fun k hk => absurd hk (Nat.not_lt_zero _)⟩, fun s hs => Or.inl ⟨rfl, ?_⟩⟩, n3⟩
  have c : s = 0 ∨ s = 1 := by omega
  rcases c with rfl | rfl
  · exact n7
  · exact n8
/-- the law over pages: it answers 1 -/
theorem whole_pure (hl : len ≤ 260) : f_L_law 6000 len xs x M = some 1 := by
  obtain ⟨M1, a1, a2, a3⟩ := Ob_start (F := 6000) (x := x) (M := nM M x) (by decide)
  obtain ⟨M2, b1, b2, b3⟩ := Ob_start (F := 6000) (x := x + 386) (M := nM M1 (x + 386)) (by decide)
  have a2' : Ob 0 M2 x Q_0 ((0, fun _ => 0), Q0) := Ob_o a2 (fun q q1 q2 => by rw [b3 q (by omega), nM_no (by omega)])
  have rd : RdE 6000 x M2 0 := R_0 (D := fun _ => 0) ⟨a2'.1.1, a2'.1.2.1, fun j hj => absurd hj (Nat.not_lt_zero _)⟩ (by omega) (by decide)
  obtain ⟨M3, c1, p1, q1⟩ := Go_p (t_erE a2' rd) b2
  have b4 := (t_b (F := 6000) p1 (by decide)).2.1.1
  have z4 : f_L_tryZone 6000 x 0 4 M3 = some (dLeft Q_0 (nI 0)) := (t_z5 (F := 6000) (z := 0) p1 (by decide) (by decide +kernel)).2
  rw [show Q_0 2 = (200 : Int32) by decide +kernel] at b4
  rw [show dLeft Q_0 (nI 0) = (50 : Int32) by
    unfold dLeft
    rw [if_neg (by decide +kernel), if_pos (by decide +kernel)]
    decide +kernel] at z4
  obtain ⟨M4, d1, p2, q2⟩ := Go_p (t_undoN (F := 6000) p1 rfl) q1
  obtain ⟨M5, e1, q3, p3⟩ := Go_q (l_refuses (F := 6000) q2 (by decide)) p2
  have al := l_alike (F := 6000) p3 q3 (by decide)
  have sn := l_sound (F := 6000) p3 (by decide)
  unfold f_L_law
  rw [bnd_e, a1, cal_s, bnd_e, b1, cal_s]
  unfold f_L_law_16
  rw [c1, cal_s, if_pos (show nI 0 = (0 : Int32) from rfl), b4, cal_s, if_pos rfl, z4, cal_s, if_pos rfl, d1, cal_s, if_pos rfl, e1, cal_s, if_neg (show ¬ (1 : Int32) = 0 by decide), al, cal_s, if_neg (show ¬ (1 : Int32) = 0 by decide), sn, cal_s, if_neg (show ¬ (1 : Int32) = 0 by decide)]
  exact l_law86 (by decide) hl (j := 2) (t := 0) (fu := 4) (by decide) (by decide) ⟨p3, q3⟩
end
