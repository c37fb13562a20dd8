section
variable {F x a b o K len z : Nat} {M N : zMi} {X : zMl} {xs : Nat → Int32} {A B C E Y P T : Pg}
theorem zmax_d {t k e : Nat} (h1 : t + k < 1000000000) (h2 : 0 < t + k) (h3 : e ≤ 999) : zmax 0 ((nI (t + k) - 1) - nI e) = nI (t + k - 1 - e) := by
  obtain ⟨m, hm⟩ : ∃ m, t + k = m + 1 := ⟨t + k - 1, by omega⟩
  rw [hm, nI_pred, Nat.add_sub_cancel]
  unfold zmax
  by_cases c : e ≤ m
  · rw [pk_sub c]
    by_cases c0 : m - e = 0
    · rw [c0]; rfl
    · rw [if_pos (show 0 < nI (m - e) from nI_lt (a := 0) (by omega) (by omega))]
  · have := pk_sneg (a := m) (b := e) (by omega) (by omega)
    rw [if_neg (show ¬ 0 < nI m - nI e from fun y => by grind), show m - e = 0 from by omega]
    rfl
theorem case_ext {k : Int32 → zMi → zMl → Option Int32} {v4 : Int32} (h : INV K M x b) (hb : b = x + 386) (hK : K < 700000000) (hF : 1573 < F) (hg : inb (v4 + 1) len = true) : goes K x b k v4 (f_L_law_1407 F len xs x b o k v4 M X) := by
  generalize hp : xs (ix (v4 + (1 : Int32))) = p
  have hA := h.2.2.1
  obtain ⟨M1, T, a1, a2, a3, a4, a5, -⟩ := INV_tr (F := F) h hb (by omega) (by omega)
  have t4 : T 4 = M (b + 3) 4 := a5 4 (by decide)
  have back : ∀ (M2 N' : zMi), fr (x + 24) M M2 → (∀ q, q ≠ b → q ≠ b + 4 → N' q = M2 q) → (∀ j, j ≠ 0 → N' b j = M b j) → INV (K + 99) N' x b := fun M2 N' f1 f2 f3 =>
    INV_mono (INV_fr h hb (fun q q1 q2 q3 q4 q5 => by rw [f2 q q1 q3, f1 q q5]) (fun j j0 _ => f3 j j0) (by rw [f2 _ (by omega) (by omega), f1 _ (by omega)])) (by omega) (by omega)
  unfold f_L_law_1407 f_L_extension f_X10_extension f_X11_extension f_X11_extension_17
  rw [hg, grd_t, hp, a1, cal_s, c_exZ a3 a4, t4]
  by_cases c : 0 ≤ p ∧ p ≤ M (b + 3) 4 - 1
  · obtain ⟨z, hz, rfl, hz4⟩ := z_of hA c
    obtain ⟨w0, w1, w2, w3⟩ := hA.2.2.2.2.2.2.1 z hz hz4
    obtain ⟨e, e9, he⟩ := exN (n := 999) w2.1 w2.2 (by decide)
    obtain ⟨t, ht, h3⟩ := exN (n := K) hA.2.2.1.2.2.1.1 hA.2.2.1.2.2.1.2 (by omega)
    have tp : T (23 + 4 * z + 2) = nI e := (a5 _ (by omega)).trans he
    have x4 : M1 (x + 24 + 8 + z) 2 = nI e := (RC_z a3 hz (by rw [t4]; exact hz4) (by decide)).trans tp
    obtain ⟨D, hD⟩ : ∃ D, D = min 99 (999 - e) := ⟨_, rfl⟩
    have zm : zmin (nI e + 99) 999 = nI (e + D) := by
      rw [show nI e + (99 : Int32) = nI (e + 99) from nI_add e 99, show (999 : Int32) = nI 999 from rfl, zminN (by omega) (by omega)]
      congr 1
      omega
    generalize hC : pU T (23 + 4 * z + 2) (nI (e + D)) = C
    have hRC : RC (wI M1 (x + 24 + 8 + z) 2 (nI (e + D))) (x + 24) C := by
      rw [← hC]; exact RC_zn Tu_T hz (by decide) a3
    have hWC : WF K C := by
      refine WG_cong (WF_ext (d := nI D) a4 hz (by rw [tp, nI_add]; exact ⟨nI_pos' (by omega), nI_le (b := 999) (by omega) (by decide)⟩)) (fun i hi => ?_)
      have i21 : i ≠ 21 := fun y => hi (by unfold irr; omega)
      unfold dExt
      rw [pU_n i21, tp, nI_add, ← hC]
    have c3 : C 3 = nI t := by rw [← hC, pU_n (by omega), a5 3 (by decide)]; exact h3
    have cp : C (23 + 4 * z + 2) = nI (e + D) := by rw [← hC]; exact pU_s
    obtain ⟨M2, kk, b1, b2, b3, b4, b5⟩ := c_until (F := F) (a := x + 24) (z := nI z) (j := 400) (m := 0) (fu := F) (by omega) hRC hWC (by omega) (by omega) (by omega)
    have f2 : fr (x + 24) M M2 := fr_t a2 (fr_t (fr_w (by omega)) b2)
    have dr : M2 (b + 3) = M (b + 3) := f2 _ (by omega)
    obtain ⟨ds, x1, x2⟩ := ext_main (z := z) (t := t) (f0 := e + D) hz hWC (by omega) c3 ht cp (by omega)
    have hx : ∀ d E, d ≤ D → ag (dExt z (nI d) (M (b + 3))) E → (dUn (nI z) 400 0 E = -9 ↔ d < ds - e) := fun d E hd hE => by
      have ep : E (23 + 4 * z + 2) = nI (e + d) := by
        rw [hE _ (by omega)]
        unfold dExt
        rw [pU_n (by omega), pU_s, he, nI_add]
      have eW : WF K E := WF_ag hE (WF_ext hA hz (by rw [he, nI_add]; exact ⟨nI_pos' (by omega), nI_le (b := 999) (by omega) (by decide)⟩))
      have eq1 : eqm z C E := fun i i1 i2 i3 => by
        rw [hE i i3, ← hC, pU_n i2, a5 i i3]
        unfold dExt
        rw [pU_n i1, pU_n i2]
      rw [x1 (e + d) E (by omega) eq1 eW ep]
      omega
    have hds : ds - e ≤ D + 1 := by
      rcases x2 with ⟨-, y⟩ | ⟨-, y⟩ | ⟨k', -, -, -, -, y⟩ <;> omega
    obtain ⟨N', i1, i2⟩ := m_extL (F := F) (b := b) (A := M (b + 3)) (D := D) (ds := ds - e) hz hz4 hA hK hF he hD e9 hds hx (j := ds - e) (d := 0) (fu := F) (N := wI M2 b 0 0) (by omega) (by omega) (by rw [wI_ne (by omega)]; exact dr)
    have fin : INV (K + 99) N' x b := back M2 N' f2 (fun q q1 q2 => by rw [i2 q q2, wI_ne q1]) (fun j j0 => by rw [i2 b (by omega), ← f2 b (by omega)]; simp [wI, j0])
    have n0 : N' b 0 = 0 := by rw [i2 b (by omega)]; simp [wI]
    have cls : ∃ v, (if dUn (nI z) 400 0 C = (-9 : Int32) then some (.inr (-9 : Int32), M2) else (if dUn (nI z) 400 0 C = (0 : Int32) then some (.inr (0 : Int32), M2) else some (.inr (zmax (0 : Int32) (((M2 (x + 24) 8) - (1 : Int32)) - nI e)), M2))) = (some (.inr v, M2) : Option ((Nat ⊕ Int32) × zMi)) ∧ (if ds - e ≤ D then nI (ds - e) else -9) = v := by
      rcases x2 with ⟨y1, y2⟩ | ⟨y1, y2⟩ | ⟨k', k0, k4, y1, y2, y3⟩
      · rw [y1, if_pos rfl, if_neg (by omega)]; exact ⟨_, rfl, rfl⟩
      · rw [y1, if_neg (n9 (by omega)), if_pos (show nI 0 = (0 : Int32) from rfl), y2, Nat.zero_sub, if_pos (by omega)]; exact ⟨_, rfl, rfl⟩
      · have ekk : kk = k' := by
          rcases b5 with b5 | b5
          · rw [y1] at b5; exact absurd b5 (n9 (by omega))
          · rw [y1, Nat.zero_add] at b5
            exact ((nI_eq (a := k') (b := kk) (by omega) (by omega)).mp b5).symm
        subst ekk
        have m8 : M2 (x + 24) 8 = nI (t + kk) := by
          have : M2 (x + 24) 8 = dDays kk C 3 := b4.1.2.2.2.1
          rw [this, dDays_3 c3]
        rw [y1, if_neg (n9 (by omega)), if_neg (show ¬ nI kk = (0 : Int32) from nI_ne0 (by omega) (by omega)), m8, zmax_d (by omega) (by omega) e9, y2, if_pos (by omega)]
        exact ⟨_, rfl, rfl⟩
    obtain ⟨v, v1, v2⟩ := cls
    rw [v2] at i1
    unfold f_X5_daysUntilDone
    rw [if_pos c, calp_r, ixN (by omega), bnd_e, x4, zm, bnd_e, show f_X5_daysUntilDone_2 F (x + 24) (nI z) F (0 : Int32) (wI M1 (x + 24 + 8 + z) 2 (nI (e + D))) = f_X5_daysUntilDone_2 F (x + 24) (nI z) F (nI 0) (wI M1 (x + 24 + 8 + z) 2 (nI (e + D))) from rfl, b1, cal_s]
    dsimp only
    rw [v1, calw_r, bnd_e, cal_s, grd_t]
    dsimp only
    rw [m_isZone, cal_s, if_pos (show 0 ≤ nI z ∧ nI z ≤ M2 (b + 3) 4 - 1 by rw [dr]; exact c), if_neg (show ¬ (1 : Int32) = 0 by decide), m_r0, cal_s, if_pos rfl]
    dsimp only
    rw [show f_X11_extension_27 F b (nI z) F (0 : Int32) (wI M2 b 0 0) = f_X11_extension_27 F b (nI z) F (nI 0) (wI M2 b 0 0) from rfl, i1]
    exact ac_ok n0 fin (fun _ => wL_s)
  · have dr : M1 (b + 3) = M (b + 3) := a2 _ (by omega)
    rw [if_neg c, calp_l, calw_l, if_pos rfl, cal_s, grd_t]
    dsimp only
    rw [m_isZone, cal_s, if_neg (show ¬ (0 ≤ p ∧ p ≤ M1 (b + 3) 4 - 1) by rw [dr]; exact c), if_pos rfl, m_r1 (by decide), cal_s, if_neg (show ¬ (1 : Int32) = 0 by decide)]
    exact ac_ok (v := 0) (by simp [wI]) (back M1 _ a2 (fun q q1 q2 => wI_ne q1) (fun j j0 => by rw [← a2 b (by omega)]; simp [wI, j0])) (fun q => absurd q (by decide))
end
