section
variable {F x a K : Nat} {M N : zMi} {A : Pg} {R : Rs} {s z : Nat} {p u : Int32}
/-- the trial's page is the present one -/
theorem Ob_cp (h : Ob K M x A R) (hF : 31 ≤ F) : ∃ M1, f_X5_copyFrom F (x + 24) (x + 3) M = some M1 ∧ fr (x + 24) M M1 ∧ RC M1 (x + 24) A := c_copy hF (by omega) h.2.1
noncomputable def aAh (A : Pg) (d : Nat) (w : Int32) : Int32 := if w = 0 then dDays d A 17 - A 17 else if w = 1 then dDays d A 7 else if w = 2 then dDays d A 19 - A 19 else if w = 3 then dDays d A 20 - A 20 else dDays d A 9
theorem t_ahY {d : Nat} {w : Int32} (h : Ob K M x A R) (hF : 101 ≤ F) (hK : K + 99 < 1000000) (hd : d ≤ 99) (hw : 0 ≤ w ∧ w ≤ 4) : Go (f_L_tryAhead F x (nI d) w M) M x K A R (aAh A d w) := by
  obtain ⟨M1, a1, a2, a3⟩ := Ob_cp (F := F) h (by omega)
  obtain ⟨M2, b1, b2, b3⟩ := c_days (F := F) (n := d) hF a3 h.2.2.1.1 (by omega) (by omega) (by omega)
  have f2 := fr_t a2 b2
  have hc : 0 ≤ nI d ∧ nI d ≤ 99 := ⟨nI_pos' (by omega), nI_le (b := 99) hd (by decide)⟩
  have g10 : M2 (x + 3 + 7) = M (x + 3 + 7) := f2 _ (by omega)
  obtain ⟨l0, l1, l2, l3, l4, l5, l6⟩ := h.2.1.2.1
  obtain ⟨y0, y1, y2, y3, y4, y5, y6⟩ := b3.2.1
  obtain ⟨u0, u1, u2, u3, u4, u5, u6⟩ := b3.1
  unfold f_L_tryAhead f_X10_ahead aAh
  rw [c_rr, if_pos hc, calp_r, c_rr, if_pos hw, calp_r, a1, cal_s, b1, cal_s, g10, y1, y3, y4, u4, u6, l1, l3, l4]
  rcases in5 hw with rfl | rfl | rfl | rfl | rfl <;> simp (decide := true) only [↓reduceIte, calw_r] <;> exact Go_tr h f2
theorem t_ahA {w : Int32} (h : Ob K M x A R) (c : ¬ (0 ≤ p ∧ p ≤ 99) ∨ ¬ (0 ≤ w ∧ w ≤ 4)) : Go (f_L_tryAhead F x p w M) M x K A R (-1002) := by
  unfold f_L_tryAhead f_X10_ahead
  rw [c_rr]
  by_cases c1 : 0 ≤ p ∧ p ≤ 99
  · rw [if_pos c1, calp_r, c_rr, if_neg (c.resolve_left (fun y => y c1)), calp_l, calw_l, if_pos rfl]; exact Go_id h
  · rw [if_neg c1, calp_l, calw_l, if_pos rfl]; exact Go_id h
theorem t_daY (h : Ob K M x A R) (hF : 1573 < F) (hK : K < 1000000) (c : 0 ≤ p ∧ p ≤ A 4 - 1) : Go (f_L_tryDoneAfter F x p M) M x K A R (dUn p 400 0 A) := by
  obtain ⟨M1, a1, a2, a3⟩ := Ob_cp (F := F) h (by omega)
  obtain ⟨M2, j, b1, b2, -, -, -⟩ := c_until (F := F) (a := x + 24) (z := p) (j := 400) (m := 0) (fu := F) (by omega) a3 h.2.2.1.1 (by omega) (by omega) (by omega)
  unfold f_L_tryDoneAfter f_X10_doneAfter f_X5_daysUntilDone
  rw [c_exZ h.2.1 h.2.2.1.1, if_pos c, calp_r, a1, cal_s, show f_X5_daysUntilDone_2 F (x + 24) p F (0 : Int32) M1 = f_X5_daysUntilDone_2 F (x + 24) p F (nI 0) M1 from rfl, b1, cal_s, calw_r]
  exact Go_tr h (fr_t a2 b2)
theorem t_daI (h : Ob K M x A R) (c : ¬ (0 ≤ p ∧ p ≤ A 4 - 1)) : Go (f_L_tryDoneAfter F x p M) M x K A R (-1001) := by
  unfold f_L_tryDoneAfter f_X10_doneAfter
  rw [c_exZ h.2.1 h.2.2.1.1, if_neg c, calp_l, calw_l, if_pos rfl]
  exact Go_id h
/-- the extension that is needed, and one less that is not enough -/
def exP (A : Pg) (z : Nat) (v : Int32) : Prop := ∃ e D ds : Nat, e ≤ 999 ∧ A (23 + 4 * z + 2) = nI e ∧ D = min 99 (999 - e) ∧ v = (if ds ≤ D then nI ds else -9) ∧ ∀ d, d ≤ D → (dUn (nI z) 400 0 (dExt z (nI d) A) = -9 ↔ d < ds)
theorem t_exY (h : Ob K M x A R) (hF : 1573 < F) (hK : K < 1000000) (hz : z < 9) (hz4 : nI z < A 4) : ∃ v, Go (f_L_tryExtension F x (nI z) M) M x K A R v ∧ exP A z v := by
  have hA := h.2.2.1.1
  have c := zIn hA hz hz4
  obtain ⟨M1, a1, a2, a3⟩ := Ob_cp (F := F) h (by omega)
  obtain ⟨w0, w1, w2, w3⟩ := hA.2.2.2.2.2.2.1 z hz hz4
  obtain ⟨e, e9, he⟩ := exN (n := 999) w2.1 w2.2 (by decide)
  obtain ⟨t, ht, h3⟩ := exN (n := K) hA.2.2.1.2.2.1.1 hA.2.2.1.2.2.1.2 (by omega)
  have x4 : M1 (x + 24 + 8 + z) 2 = nI e := (RC_z a3 hz hz4 (by decide)).trans he
  obtain ⟨D, hD⟩ : ∃ D, D = min 99 (999 - e) := ⟨_, rfl⟩
  have zm : zmin (nI e + 99) 999 = nI (e + D) := by
    rw [show nI e + (99 : Int32) = nI (e + 99) from nI_add e 99, show (999 : Int32) = nI 999 from rfl, zminN (by omega) (by omega)]
    congr 1
    omega
  generalize hC : pU A (23 + 4 * z + 2) (nI (e + D)) = C
  have hRC : RC (wI M1 (x + 24 + 8 + z) 2 (nI (e + D))) (x + 24) C := by
    rw [← hC]; exact RC_zn Tu_T hz (by decide) a3
  have hWC : WF K C := by
    refine WG_cong (WF_ext (d := nI D) hA hz (by rw [he, nI_add]; exact ⟨nI_pos' (by omega), nI_le (b := 999) (by omega) (by decide)⟩)) (fun i hi => ?_)
    have i21 : i ≠ 21 := fun y => hi (by unfold irr; omega)
    unfold dExt
    rw [pU_n i21, he, nI_add, ← hC]
  have c3 : C 3 = nI t := by rw [← hC, pU_n (by omega)]; exact h3
  have cp : C (23 + 4 * z + 2) = nI (e + D) := by rw [← hC]; exact pU_s
  obtain ⟨M2, kk, b1, b2, b3, b4, b5⟩ := c_until (F := F) (a := x + 24) (z := nI z) (j := 400) (m := 0) (fu := F) (by omega) hRC hWC (by omega) (by omega) (by omega)
  have f2 : fr (x + 24) M M2 := fr_t a2 (fr_t (fr_w (by omega)) b2)
  obtain ⟨ds, x1, x2⟩ := ext_main (z := z) (t := t) (f0 := e + D) hz hWC (by omega) c3 ht cp (by omega)
  have hx : ∀ d, d ≤ D → (dUn (nI z) 400 0 (dExt z (nI d) A) = -9 ↔ d < ds - e) := fun d hd => by
    have ep : dExt z (nI d) A (23 + 4 * z + 2) = nI (e + d) := by
      unfold dExt
      rw [pU_n (by omega), pU_s, he, nI_add]
    have eW : WF K (dExt z (nI d) A) := WF_ext hA hz (by rw [he, nI_add]; exact ⟨nI_pos' (by omega), nI_le (b := 999) (by omega) (by decide)⟩)
    have eq1 : eqm z C (dExt z (nI d) A) := fun i i1 i2 i3 => by
      rw [← hC, pU_n i2]
      unfold dExt
      rw [pU_n i1, pU_n i2]
    rw [x1 (e + d) _ (by omega) eq1 eW ep]
    omega
  have hds : ds - e ≤ D + 1 := by
    rcases x2 with ⟨-, y⟩ | ⟨-, y⟩ | ⟨k', -, -, -, -, y⟩ <;> omega
  have cls : (if dUn (nI z) 400 0 C = (-9 : Int32) then some (.inr (-9 : Int32), M2) else (if dUn (nI z) 400 0 C = (0 : Int32) then some (.inr (0 : Int32), M2) else some (.inr (zmax (0 : Int32) (((M2 (x + 24) 8) - (1 : Int32)) - nI e)), M2))) = (some (.inr (if ds - e ≤ D then nI (ds - e) else -9), M2) : Option ((Nat ⊕ Int32) × zMi)) := by
    rcases x2 with ⟨y1, y2⟩ | ⟨y1, y2⟩ | ⟨k', k0, k4, y1, y2, y3⟩
    · rw [y1, if_pos rfl, if_neg (by omega)]
    · rw [y1, if_neg (n9 (by omega)), if_pos (show nI 0 = (0 : Int32) from rfl), y2, Nat.zero_sub, if_pos (by omega)]; rfl
    · have ekk : kk = k' := by
        rcases b5 with b5 | b5
        · rw [y1] at b5; exact absurd b5 (n9 (by omega))
        · rw [y1, Nat.zero_add] at b5
          exact ((nI_eq (a := k') (b := kk) (by omega) (by omega)).mp b5).symm
      subst ekk
      have m8 : M2 (x + 24) 8 = nI (t + kk) := by
        have : M2 (x + 24) 8 = dDays kk C 3 := b4.1.2.2.2.1
        rw [this, dDays_3 c3]
      rw [y1, if_neg (n9 (by omega)), if_neg (show ¬ nI kk = (0 : Int32) from nI_ne0 (by omega) (by omega)), m8, zmax_d (by omega) (by omega) e9, y2, if_pos (by omega)]
  refine ⟨if ds - e ≤ D then nI (ds - e) else -9, ?_, e, D, ds - e, e9, he, hD, rfl, hx⟩
  unfold f_L_tryExtension f_X10_extension f_X5_daysUntilDone
  rw [a1, cal_s, c_exZ a3 hA, if_pos c, calp_r, ixN (by omega), bnd_e, x4, zm, bnd_e, show f_X5_daysUntilDone_2 F (x + 24) (nI z) F (0 : Int32) (wI M1 (x + 24 + 8 + z) 2 (nI (e + D))) = f_X5_daysUntilDone_2 F (x + 24) (nI z) F (nI 0) (wI M1 (x + 24 + 8 + z) 2 (nI (e + D))) from rfl, b1, cal_s]
  dsimp only
  rw [cls, calw_r]
  exact Go_tr h f2
theorem t_exI (h : Ob K M x A R) (hF : 31 ≤ F) (c : ¬ (0 ≤ p ∧ p ≤ A 4 - 1)) : Go (f_L_tryExtension F x p M) M x K A R (-1001) := by
  obtain ⟨M1, a1, a2, a3⟩ := Ob_cp (F := F) h hF
  unfold f_L_tryExtension f_X10_extension
  rw [a1, cal_s, c_exZ a3 h.2.2.1.1, if_neg c, calp_l, calw_l, if_pos rfl]
  exact Go_tr h a2
/-- the best ship -/
noncomputable def aBs (A : Pg) (f : Nat) : Int32 := dBest A (fun _ => A) f 0 (-9) 0 0
theorem t_bs {f : Nat} (h : Ob K M x A R) (hF : 101 ≤ F) (hK : K < 1000000) (h5 : A 5 = nI f) (hf : f ≤ 4) : Go (f_X10_bestShip F x M) M x K A R (aBs A f) := by
  obtain ⟨N', b1, b2⟩ := c_bestL (F := F) (B := fun _ => A) h.2.1 h.2.2.1.1 (by omega) hF h5 hf (fun _ _ _ => rfl) (j := f) (s := 0) (fu := F) (v1 := -9) (v2 := 0) (v3 := 0) (w2 := 0) (N := M) (by omega) (by omega) fr_r (Or.inl rfl)
  unfold f_X10_bestShip
  rw [show f_X10_bestShip_10 F x F (-9 : Int32) (0 : Int32) (0 : Int32) (0 : Int32) M = f_X10_bestShip_10 F x F (-9 : Int32) (0 : Int32) (0 : Int32) (nI 0) M from rfl, b1]
  exact Go_tr h b2
-- ---- simulations
theorem t_siY {d : Nat} {sd : Int64} (h : Ob K M x A R) (hF : 1573 < F) (hK : K < 1000000) (hd : 1 ≤ d ∧ d ≤ 99) : Go (f_L_trySimulate F x sd (nI d) M) M x K A R (1000 * (dSim d sd A 17 - A 17) + dSim d sd A 3) := by
  obtain ⟨M1, a1, a2, a3⟩ := Ob_cp (F := F) h (by omega)
  obtain ⟨M2, b1, b2⟩ := c_simL (F := F) (x := x) (p1 := sd) (s := sd) (i := 0) (fu := F) (j := d) (by omega) a3 h.2.2.1.1 (by omega) (by omega) (by omega)
  rw [Nat.zero_add] at b1
  have hc : 1 ≤ nI d ∧ nI d ≤ 99 := ⟨nI_le (a := 1) hd.1 (by omega), nI_le (b := 99) hd.2 (by decide)⟩
  have e1 : M1 (x + 3 + 7) 1 = A 17 := by rw [a2 _ (by omega)]; exact h.2.1.2.1.2.1
  rw [e1] at b1
  unfold f_L_trySimulate f_X10_simulate
  rw [c_rr, if_pos hc, calp_r, a1, cal_s, show f_X10_simulate_24 F x sd (nI d) F sd (0 : Int32) M1 = f_X10_simulate_24 F x sd (nI d) F sd (nI 0) M1 from rfl, b1, calw_r]
  exact Go_tr h (fr_t a2 b2)
theorem t_siA {sd : Int64} (h : Ob K M x A R) (c : ¬ (1 ≤ p ∧ p ≤ 99)) : Go (f_L_trySimulate F x sd p M) M x K A R (-1002) := by
  unfold f_L_trySimulate f_X10_simulate
  rw [c_rr, if_neg c, calp_l, calw_l, if_pos rfl]
  exact Go_id h
-- ---- scripts of one command
def Suc (F : Nat) (A : Pg) (g : Nat) (r : Int32) : Prop := ∀ (a : Nat) (M : zMi), RC M a A → ∃ M', f_X2_succeeds F a (nI g) M = some (r, M') ∧ fr a M M'
theorem t_scA {q : Int64} (h : Ob K M x A R) (c : ¬ (1 ≤ p ∧ p ≤ 3)) : Go (f_L_tryScript F x p q M) M x K A R (-1002) := by
  unfold f_L_tryScript f_X10_runScript
  rw [c_rr, if_neg c, calp_l, calw_l, if_pos rfl]
  exact Go_id h
theorem t_scA1 {g : Nat} (h : Ob K M x A R) (hF : 101 ≤ F) (hg : g < 2 ^ 63) (hg2 : 100000 ≤ g) : Go (f_L_tryScript F x 1 (lN g) M) M x K A R (-1002) := by
  have hw := c_wl (F := F) (M := M) (s := g) (j := 1) hg (by omega) hF
  have hq : g / 100000 ^ 1 < 2 ^ 63 := Nat.lt_of_le_of_lt (Nat.div_le_self _ _) hg
  have q1 : 0 < g / 100000 ^ 1 := Nat.div_pos (by omega) (by decide)
  unfold f_L_tryScript f_X10_runScript
  rw [c_rr, if_pos (by decide), calp_r, if_neg (fun y => absurd ((lg_cmp_lt _ 0).mp y) (Int64.not_lt.mpr ((pk_lLE (a := 0) (by decide) hg).mpr (Nat.zero_le _)))), show (1 : Int32) = nI 1 from rfl, hw, cal_s, if_pos (show 0 < lg_cmp (lN (g / 100000 ^ 1)) 0 from (lg_cmp_gt _ _).mpr ((pk_lLT (a := 0) (by decide) hq).mpr q1)), calw_l, if_pos rfl]
  exact Go_id h
theorem t_sc {g : Nat} {r : Int32} (h : Ob K M x A R) (hF : 101 ≤ F) (hg : g < 100000) (hs : Suc F A g r) : Go (f_L_tryScript F x 1 (lN g) M) M x K A R (if r = 0 then 0 else -9) := by
  have hg63 : g < 2 ^ 63 := by omega
  have hw := c_wl (F := F) (M := M) (s := g) (j := 1) hg63 (by omega) hF
  obtain ⟨M1, a1, a2, a3⟩ := Ob_cp (F := F) h (by omega)
  have hw0 := c_wl (F := F) (M := M1) (s := g) (j := 0) hg63 (by omega) hF
  obtain ⟨M2, b1, b2⟩ := hs _ _ a3
  obtain ⟨m, hm⟩ : ∃ m, F = m + 2 := ⟨F - 2, by omega⟩
  have en : nI 1 - 1 - nI 0 = nI 0 := rfl
  have run : ∀ F', F' = F → f_X10_runScript_47 F x (nI 1) (lN g) F' (nI 0) M1 = some (.inr (if r = 0 then nI 0 else -9), M2) := fun F' hF' => by
    rw [hF', show f_X10_runScript_47 F x (nI 1) (lN g) F = f_X10_runScript_47 F x (nI 1) (lN g) (m + 2) from by rw [← hm]]
    rw [f_X10_runScript_47, if_pos (show nI 0 < nI 1 by decide), en, hw0, cal_s, Nat.pow_zero, Nat.div_one, show (100000 : Int64) = lN 100000 from rfl, pk_lRem hg63 (by decide) (by decide), lN_i, bnd_e, Nat.mod_eq_of_lt hg, b1, cal_s]
    by_cases c : r = 0
    · rw [if_pos c, if_pos c]
    · rw [if_neg c, if_neg c, ad1, f_X10_runScript_47, if_neg (show ¬ nI (0 + 1) < nI 1 by decide)]
  unfold f_L_tryScript f_X10_runScript
  rw [c_rr, if_pos (by decide), calp_r, if_neg (fun y => absurd ((lg_cmp_lt _ 0).mp y) (Int64.not_lt.mpr ((pk_lLE (a := 0) (by decide) hg63).mpr (Nat.zero_le _)))), show (1 : Int32) = nI 1 from rfl, hw, cal_s, show g / 100000 ^ 1 = 0 from Nat.div_eq_of_lt (by omega), if_neg (fun y => absurd ((lg_cmp_gt _ _).mp y) (by decide)), a1, cal_s, show f_X10_runScript_47 F x (nI 1) (lN g) F (0 : Int32) M1 = f_X10_runScript_47 F x (nI 1) (lN g) F (nI 0) M1 from rfl, run F rfl, calw_r]
  exact Go_tr h (fr_t a2 b2)
-- ---- the text
theorem t_apY {n v : Nat} {tx : Nat → Nat} (h : Ob K M x A R) (hn : R.1.1 < 160) (hv : v < 256) : Go (f_L_tryAppend F x (nI v) M) M x K A (rTx (R.1.1 + 1) (fun k => if k = R.1.1 then v else R.1.2 k) R) (nI (R.1.1 + 1)) := by
  obtain ⟨⟨t1, t2, t3⟩, h2, h3, ⟨g1, o, g2, g3, g4, g5⟩, sl⟩ := h
  have hc : 0 ≤ nI v ∧ nI v ≤ 255 := ⟨nI_pos' (by omega), nI_le (b := 255) (by omega) (by decide)⟩
  unfold f_L_tryAppend f_X10_append f_X10_require
  rw [c_rr, if_pos hc, calp_r, c_room t2 t1, cal_s, if_pos hn, if_neg (show ¬ (1 : Int32) = 0 by decide), calp_r, c_addC t2 hn hv, cal_s, calw_r]
  generalize hN : wI (wI M (x + 1 + 1) R.1.1 (nI v)) (x + 1) 1 (nI (R.1.1 + 1)) = N
  have e : ∀ q, q ≠ x + 1 → q ≠ x + 2 → N q = M q := fun q q1 q2 => by rw [← hN, wI_ne q1, wI_ne (by omega)]
  refine ⟨N, rfl, ⟨⟨by show R.1.1 + 1 ≤ 160; omega, by rw [← hN]; simp [wI]; rfl, fun j hj => ?_⟩, RC_fr h2 (fun q q1 q2 => e q (by omega) (by omega)), h3, ⟨g1, o, g2, by rw [e _ (by omega) (by omega)]; exact g3, by rw [e _ (by omega) (by omega)]; exact g4, fun k hk => ⟨RC_fr (g5 k hk).1 (fun q q1 q2 => e q (by omega) (by omega)), (g5 k hk).2⟩⟩, fun s hs => ?_⟩, fun q hq => e q (by omega) (by omega)⟩
  · have hj' : j < R.1.1 + 1 := hj
    show N (x + 1 + 1) j = nI (if j = R.1.1 then v else R.1.2 j) ∧ (if j = R.1.1 then v else R.1.2 j) < 256
    have e2 : N (x + 1 + 1) j = if j = R.1.1 then nI v else M (x + 1 + 1) j := by
      rw [← hN, wI_ne (by omega)]
      unfold wI
      by_cases c : j = R.1.1
      · rw [if_pos ⟨rfl, c⟩, if_pos c]
      · rw [if_neg (fun y => c y.2), if_neg c]
    rw [e2]
    by_cases c : j = R.1.1
    · rw [if_pos c, if_pos c]; exact ⟨rfl, hv⟩
    · rw [if_neg c, if_neg c]; exact t3 j (by omega)
  · rcases sl s hs with ⟨y1, y2⟩ | ⟨B, y1, y2, y3, y4⟩
    · exact Or.inl ⟨y1, by rw [e _ (by omega) (by omega)]; exact y2⟩
    · exact Or.inr ⟨B, y1, by rw [e _ (by omega) (by omega)]; exact y2, RC_fr y3 (fun q z1 z2 => e q (by omega) (by omega)), y4⟩
theorem t_apA (h : Ob K M x A R) (c : ¬ (0 ≤ p ∧ p ≤ 255)) : Go (f_L_tryAppend F x p M) M x K A R (-1002) := by
  unfold f_L_tryAppend f_X10_append
  rw [c_rr, if_neg c, calp_l, calw_l, if_pos rfl]
  exact Go_id h
theorem t_cl (h : Ob K M x A R) : Go (f_X10_clearText F x M) M x K A (rTx 0 R.1.2 R) (nI R.1.1) := by
  obtain ⟨⟨t1, t2, t3⟩, h2, h3, ⟨g1, o, g2, g3, g4, g5⟩, sl⟩ := h
  unfold f_X10_clearText f_X7_clear
  rw [bnd_e, bnd_e, cal_s, t2]
  have e : ∀ q, q ≠ x + 1 → wI M (x + 1) 1 0 q = M q := fun q q1 => wI_ne q1
  refine ⟨wI M (x + 1) 1 0, rfl, ⟨⟨Nat.zero_le _, by simp [wI]; rfl, fun j hj => absurd hj (Nat.not_lt_zero _)⟩, RC_fr h2 (fun q q1 q2 => e q (by omega)), h3, ⟨g1, o, g2, by rw [e _ (by omega)]; exact g3, by rw [e _ (by omega)]; exact g4, fun k hk => ⟨RC_fr (g5 k hk).1 (fun q q1 q2 => e q (by omega)), (g5 k hk).2⟩⟩, fun s hs => ?_⟩, fun q hq => e q (by omega)⟩
  rcases sl s hs with ⟨y1, y2⟩ | ⟨B, y1, y2, y3, y4⟩
  · exact Or.inl ⟨y1, by rw [e _ (by omega)]; exact y2⟩
  · exact Or.inr ⟨B, y1, by rw [e _ (by omega)]; exact y2, RC_fr y3 (fun q z1 z2 => e q (by omega)), y4⟩
theorem Ob_ft (h : Ob K M x A R) (f : frT (x + 1) (x + 24) M N) : Ob K N x A R := Ob_rd h (fun q q1 q2 q3 q4 => f.1 q q3 (by omega)) f.2
theorem fO_ft (f : frT (x + 1) (x + 24) M N) : fO x M N := fun q hq => f.1 q (by omega) (by omega)
/-- the text read: up to a place, or whole -/
def RdE (F x : Nat) (M : zMi) (i : Nat) : Prop := ∃ M', f_X7_readInto F (x + 1) (x + 24) M = some (nI i, M') ∧ frT (x + 1) (x + 24) M M'
def RdO (F x : Nat) (M : zMi) (B : Pg) : Prop := ∃ M', f_X7_readInto F (x + 1) (x + 24) M = some (-9, M') ∧ frT (x + 1) (x + 24) M M' ∧ RC M' (x + 24) B
theorem t_erE {i : Nat} (h : Ob K M x A R) (r : RdE F x M i) : Go (f_X10_errorPosition F x M) M x K A R (nI i) := by
  obtain ⟨M', r1, r2⟩ := r
  unfold f_X10_errorPosition
  rw [r1, cal_s]
  exact ⟨M', rfl, Ob_ft h r2, fO_ft r2⟩
theorem t_erO {B : Pg} (h : Ob K M x A R) (r : RdO F x M B) : Go (f_X10_errorPosition F x M) M x K A R (-9) := by
  obtain ⟨M', r1, r2, -⟩ := r
  unfold f_X10_errorPosition
  rw [r1, cal_s]
  exact ⟨M', rfl, Ob_ft h r2, fO_ft r2⟩
theorem t_ldE {i : Nat} (h : Ob K M x A R) (hi : i ≤ 160) (r : RdE F x M i) : Go (f_L_tryLoad F x M) M x K A R (-1003) := by
  obtain ⟨M', r1, r2⟩ := r
  unfold f_L_tryLoad f_X10_load f_X10_load_21 f_X10_require
  rw [r1, cal_s, if_neg (n9 (k := i) (by omega)), if_pos rfl, calp_l, calw_l, if_pos rfl]
  exact ⟨M', rfl, Ob_ft h r2, fO_ft r2⟩
theorem t_ldO {B : Pg} {K' : Nat} (h : Ob K M x A R) (hF : 101 ≤ F) (hB : WS K' B) (r : RdO F x M B) : Go (f_L_tryLoad F x M) M x K' B (rLd R) (B 4) := by
  obtain ⟨M0, r1, r2, r3⟩ := r
  obtain ⟨t, h2, h3, ⟨g1, o, g2, g3, g4, g5⟩, sl⟩ := Ob_ft h r2
  obtain ⟨M1, a1, a2, a3⟩ := c_copy (F := F) (a := x + 3) (b := x + 24) (by omega) (by omega) r3
  obtain ⟨m, hm⟩ : ∃ m, F = m + 3 := ⟨F - 3, by omega⟩
  generalize hM2 : wI (wI M1 (x + 45) 1 0) (x + 45) 2 0 = M2
  generalize hM3 : wI (wI M2 (x + 342) 1 0) (x + 342 + 22) 1 0 = M3
  have e2 : ∀ q, q ≠ x + 45 → q ≠ x + 342 → q ≠ x + 342 + 22 → (q < x + 3 ∨ x + 23 < q) → M3 q = M0 q := fun q q1 q3 q4 q2 => by rw [← hM3, wI_ne q4, wI_ne q3, ← hM2, wI_ne q1, wI_ne q1]; exact a2 q (by omega)
  have e3 : ∀ q, x + 3 ≤ q → q ≤ x + 23 → M3 q = M1 q := fun q q1 q2 => by rw [← hM3, wI_ne (by omega), wI_ne (by omega), ← hM2, wI_ne (by omega), wI_ne (by omega)]
  have run : ∀ F', F' = F → f_X10_load_52 F x F' (nI 0) M2 = some (.inr (M3 (x + 3) 5), M3) := fun F' hF' => by
    rw [hF', show f_X10_load_52 F x F = f_X10_load_52 F x (m + 3) from by rw [← hm]]
    rw [f_X10_load_52, if_pos (show nI 0 < (2 : Int32) by decide), show inb (nI 0) 2 = true from by decide, grd_t, bnd_e, bnd_e, show ix (nI 0) = 0 from by decide, ad1, f_X10_load_52, if_pos (show nI (0 + 1) < (2 : Int32) by decide), show inb (nI (0 + 1)) 2 = true from by decide, grd_t, bnd_e, bnd_e, show ix (nI (0 + 1)) = 1 from by decide, ad1, f_X10_load_52, if_neg (show ¬ nI (0 + 1 + 1) < (2 : Int32) by decide)]
    rw [show x + 341 + 1 + 22 * 0 = x + 342 from by omega, show x + 341 + 1 + 22 * 1 = x + 342 + 22 from by omega, hM3]
  have v2 : M3 (x + 3) 5 = B 4 := by rw [e3 _ (by omega) (by omega)]; exact a3.1.1
  unfold f_L_tryLoad f_X10_load f_X10_load_21 f_X10_require
  rw [r1, cal_s, if_pos rfl, if_neg (show ¬ (1 : Int32) = 0 by decide), calp_r]
  dsimp only
  rw [a1, cal_s]
  unfold f_X0_clear
  rw [bnd_e, bnd_e, hM2, cal_s, show f_X10_load_52 F x F (0 : Int32) M2 = f_X10_load_52 F x F (nI 0) M2 from rfl, run F rfl, calw_r, v2]
  refine ⟨M3, rfl, ⟨⟨t.1, by rw [e2 _ (by omega) (by omega) (by omega) (by omega)]; exact t.2.1, fun j hj => by rw [e2 _ (by omega) (by omega) (by omega) (by omega)]; exact t.2.2 j hj⟩, RC_fr a3 (fun q q1 q2 => e3 q (by omega) (by omega)), hB, ⟨Nat.zero_le _, 0, by decide, ?_, ?_, fun k hk => absurd hk (Nat.not_lt_zero _)⟩, fun s hs => Or.inl ⟨rfl, ?_⟩⟩, fO_t (fO_ft r2) (fun q hq => e2 q (by omega) (by omega) (by omega) (by omega))⟩
  · rw [← hM3, wI_ne (by omega), wI_ne (by omega), ← hM2]; simp [wI]; rfl
  · rw [← hM3, wI_ne (by omega), wI_ne (by omega), ← hM2]; simp [wI]; rfl
  · have c : s = 0 ∨ s = 1 := by omega
    rcases c with rfl | rfl
    · rw [← hM3, wI_ne (by omega)]; simp [wI]
    · rw [← hM3]; simp [wI]
end
