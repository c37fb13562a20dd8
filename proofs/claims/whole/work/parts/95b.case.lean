section
variable {F x b o K len : Nat} {M N : zMi} {X : zMl} {xs : Nat → Int32} {A : Pg}
theorem in5 {q : Int32} (c : 0 ≤ q ∧ q ≤ 4) : q = 0 ∨ q = 1 ∨ q = 2 ∨ q = 3 ∨ q = 4 := by
  obtain ⟨n, hn, rfl⟩ := exN (n := 4) c.1 c.2 (by decide)
  have : n = 0 ∨ n = 1 ∨ n = 2 ∨ n = 3 ∨ n = 4 := by omega
  rcases this with rfl | rfl | rfl | rfl | rfl <;> decide
theorem in8 {q : Int32} (c : 0 ≤ q ∧ q ≤ 7) : q = 0 ∨ q = 1 ∨ q = 2 ∨ q = 3 ∨ q = 4 ∨ q = 5 ∨ q = 6 ∨ q = 7 := by
  obtain ⟨n, hn, rfl⟩ := exN (n := 7) c.1 c.2 (by decide)
  have : n = 0 ∨ n = 1 ∨ n = 2 ∨ n = 3 ∨ n = 4 ∨ n = 5 ∨ n = 6 ∨ n = 7 := by omega
  rcases this with rfl | rfl | rfl | rfl | rfl | rfl | rfl | rfl <;> decide
theorem m_in04 {p : Int32} : f_X11_in F p.toInt64 (0 : Int64) (4 : Int64) M = some (if 0 ≤ p ∧ p ≤ 4 then 1 else 0) := m_in3 (y := 0) (z := 4)
theorem m_in07 {p : Int32} : f_X11_in F p.toInt64 (0 : Int64) (7 : Int64) M = some (if 0 ≤ p ∧ p ≤ 7 then 1 else 0) := m_in3 (y := 0) (z := 7)
theorem z_of {p : Int32} (hA : WF K A) (c : 0 ≤ p ∧ p ≤ A 4 - 1) : ∃ z, z < 9 ∧ p = nI z ∧ nI z < A 4 := by
  have q4 := hA.2.2.1.2.2.2.1
  obtain ⟨z, hz, rfl⟩ := exN (n := 8) (x := p) c.1 (by show p ≤ 8; grind) (by decide)
  exact ⟨z, by omega, rfl, by grind⟩
theorem s_of {p : Int32} (hA : WF K A) (c : 0 ≤ p ∧ p ≤ A 5 - 1) : ∃ s, s < 4 ∧ p = nI s ∧ nI s < A 5 := by
  have q5 : 1 ≤ A 5 ∧ A 5 ≤ 4 := by rcases hA.1.1 with q | q | q | q <;> rw [q] <;> decide
  obtain ⟨s, hs, rfl⟩ := exN (n := 3) (x := p) c.1 (by show p ≤ 3; grind) (by decide)
  exact ⟨s, by omega, rfl, by grind⟩
theorem zone_in {q : Int32} {z : Nat} (h : INV K M x b) (hz : z < 9) (hz4 : nI z < M (b + 3) 4) (c0 : 0 ≤ nI z ∧ nI z ≤ M (b + 3) 4 - 1) (c : 0 ≤ q ∧ q ≤ 4) : ∃ v, f_X10_zone F x (nI z) q M = some (.inr v) ∧ f_X11_zone_33 F b (nI z) q 0 M = some (v, wI M b 0 0) := by
  have hR := h.2.1
  have hA := h.2.2.1
  have g3 : wI M b 0 0 (b + 3) = M (b + 3) := wI_ne (by omega)
  have r5 : M (x + 3) 9 = M (b + 3) 7 := hR.1.2.2.2.2.1
  have r6 : M (x + 3) 10 = M (b + 3) 8 := hR.1.2.2.2.2.2.1
  have z0 : M (x + 3 + 8 + z) 0 = M (b + 3) (23 + 4 * z) := RC_z hR hz hz4 (k := 0) (by decide)
  have z1 : M (x + 3 + 8 + z) 1 = M (b + 3) (23 + 4 * z + 1) := RC_z hR hz hz4 (by decide)
  have z2 : M (x + 3 + 8 + z) 2 = M (b + 3) (23 + 4 * z + 2) := RC_z hR hz hz4 (by decide)
  have z3 : M (x + 3 + 8 + z) 3 = M (b + 3) (23 + 4 * z + 3) := RC_z hR hz hz4 (by decide)
  unfold f_X10_zone f_X11_zone_33
  rw [c_exZ hR hA, if_pos c0, calp_r, ixN (by omega), m_r0, cal_s, if_pos rfl]
  dsimp only
  rw [m_zoneAt]
  simp (disch := omega) only [g3, cal_s, inbN, ixN, grd_t, bnd_e]
  rcases in5 c with rfl | rfl | rfl | rfl | rfl
  · simp (decide := true) (disch := omega) only [↓reduceIte, Int32.add_zero, inbN, ixN, grd_t, z0]; exact ⟨_, rfl, rfl⟩
  · simp (decide := true) (disch := omega) only [↓reduceIte, ad1, inbN, ixN, grd_t, z1]; exact ⟨_, rfl, rfl⟩
  · simp (decide := true) (disch := omega) only [↓reduceIte, ad2, inbN, ixN, grd_t, z2]; exact ⟨_, rfl, rfl⟩
  · simp (decide := true) (disch := omega) only [↓reduceIte, ad3, inbN, ixN, grd_t, z3]; exact ⟨_, rfl, rfl⟩
  · unfold f_X5_leftIn
    rw [r5, r6, z0]
    simp (decide := true) only [↓reduceIte]
    by_cases k1 : nI z < M (b + 3) 7
    · rw [if_pos k1, if_pos k1, cal_s]; exact ⟨_, rfl, rfl⟩
    · rw [if_neg k1, if_neg k1]
      by_cases k2 : nI z = M (b + 3) 7
      · rw [if_pos k2, if_pos k2, cal_s]; exact ⟨_, rfl, rfl⟩
      · rw [if_neg k2, if_neg k2, cal_s]; exact ⟨_, rfl, rfl⟩
theorem zone_o2 {p q : Int32} (h : INV K M x b) (c0 : 0 ≤ p ∧ p ≤ M (b + 3) 4 - 1) (c : ¬ (0 ≤ q ∧ q ≤ 4)) : f_X10_zone F x p q M = some (.inl 1) := by
  have hn : ∀ j : Int32, (0 ≤ j ∧ j ≤ 4) → ¬ q = j := fun j hj e => c (by rw [e]; exact hj)
  unfold f_X10_zone
  rw [c_exZ h.2.1 h.2.2.1, if_pos c0, calp_r, if_neg (hn 0 (by decide)), if_neg (hn 1 (by decide)), if_neg (hn 2 (by decide)), if_neg (hn 3 (by decide)), if_neg (hn 4 (by decide))]
theorem case_zone {k : Int32 → zMi → zMl → Option Int32} {v4 : Int32} (h : INV K M x b) (hb : b = x + 386) (hK : K < 700000000) (hg1 : inb (v4 + 1) len = true) (hg2 : inb (v4 + 2) len = true) : goes K x b k v4 (f_L_law_346 F len xs x b o k v4 M X) := by
  generalize hp : xs (ix (v4 + (1 : Int32))) = p
  generalize hq : xs (ix (v4 + (2 : Int32))) = q
  unfold f_L_law_346 f_L_zone f_X11_zone
  rw [hg1, hg2, grd_t, grd_t, hp, hq]
  by_cases c : 0 ≤ p ∧ p ≤ M (b + 3) 4 - 1
  · by_cases c2 : 0 ≤ q ∧ q ≤ 4
    · obtain ⟨z, hz, rfl, hz4⟩ := z_of h.2.2.1 c
      obtain ⟨v, e1, e2⟩ := zone_in (F := F) h hz hz4 c c2
      rw [e1, calp_r, bnd_e, cal_s, grd_t, grd_t]
      dsimp only
      rw [m_isZone, cal_s, if_pos c, if_neg (show ¬ (1 : Int32) = 0 by decide), m_in04, cal_s, if_pos c2, if_neg (show ¬ (1 : Int32) = 0 by decide), e2]
      exact rd_ok h hb hK (fun _ => wL_s)
    · rw [zone_o2 h c c2, calp_l, if_neg (show ¬ (1 : Nat) = 3 by decide), if_pos rfl, cal_s, grd_t, grd_t]
      dsimp only
      unfold f_X11_zone_33
      rw [m_isZone, cal_s, if_pos c, if_neg (show ¬ (1 : Int32) = 0 by decide), m_in04, cal_s, if_neg c2, if_pos rfl, m_r1 (by decide), cal_s, if_neg (show ¬ (1 : Int32) = 0 by decide)]
      exact rd_ok (v := 0) h hb hK (fun q => absurd q (by decide))
  · unfold f_X10_zone f_X11_zone_33
    rw [c_exZ h.2.1 h.2.2.1, if_neg c, calp_l, calp_l, if_pos rfl, cal_s, grd_t, grd_t]
    dsimp only
    rw [m_isZone, cal_s, if_neg c, if_pos rfl, m_r1 (by decide), cal_s, if_neg (show ¬ (1 : Int32) = 0 by decide)]
    exact rd_ok (v := 0) h hb hK (fun q => absurd q (by decide))
theorem ship_in {q : Int32} {s : Nat} (h : INV K M x b) (hs : s < 4) (c0 : 0 ≤ nI s ∧ nI s ≤ M (b + 3) 5 - 1) (c : 0 ≤ q ∧ q ≤ 7) : ∃ v, f_X10_ship F x (nI s) q M = some (.inr v) ∧ f_X11_ship_33 F b (nI s) q 0 M = some (v, wI M b 0 0) := by
  have hR := h.2.1
  have hA := h.2.2.1
  have g3 : wI M b 0 0 (b + 3) = M (b + 3) := wI_ne (by omega)
  have z0 : M (x + 3 + 17 + s) 0 = M (b + 3) (59 + 8 * s) := RC_s hR hs (k := 0) (by decide)
  have z1 : M (x + 3 + 17 + s) 1 = M (b + 3) (59 + 8 * s + 1) := RC_s hR hs (by decide)
  have z2 : M (x + 3 + 17 + s) 2 = M (b + 3) (59 + 8 * s + 2) := RC_s hR hs (by decide)
  have z3 : M (x + 3 + 17 + s) 3 = M (b + 3) (59 + 8 * s + 3) := RC_s hR hs (by decide)
  have z4 : M (x + 3 + 17 + s) 4 = M (b + 3) (59 + 8 * s + 4) := RC_s hR hs (by decide)
  have z5 : M (x + 3 + 17 + s) 5 = M (b + 3) (59 + 8 * s + 5) := RC_s hR hs (by decide)
  have z6 : M (x + 3 + 17 + s) 6 = M (b + 3) (59 + 8 * s + 6) := RC_s hR hs (by decide)
  have z7 : M (x + 3 + 17 + s) 7 = M (b + 3) (59 + 8 * s + 7) := RC_s hR hs (by decide)
  unfold f_X10_ship f_X11_ship_33
  rw [c_exS hR hA, if_pos c0, calp_r, ixN (by omega), m_r0, cal_s, if_pos rfl]
  dsimp only
  rw [g3, m_shipAt, cal_s]
  rcases in8 c with rfl | rfl | rfl | rfl | rfl | rfl | rfl | rfl <;> simp (decide := true) (disch := omega) only [↓reduceIte, Int32.add_zero, ad1, ad2, ad3, ad4, ad5, ad6, ad7, inbN, ixN, grd_t, z0, z1, z2, z3, z4, z5, z6, z7] <;> exact ⟨_, rfl, rfl⟩
theorem ship_o2 {p q : Int32} (h : INV K M x b) (c0 : 0 ≤ p ∧ p ≤ M (b + 3) 5 - 1) (c : ¬ (0 ≤ q ∧ q ≤ 7)) : f_X10_ship F x p q M = some (.inl 1) := by
  have hn : ∀ j : Int32, (0 ≤ j ∧ j ≤ 7) → ¬ q = j := fun j hj e => c (by rw [e]; exact hj)
  unfold f_X10_ship
  rw [c_exS h.2.1 h.2.2.1, if_pos c0, calp_r, if_neg (hn 0 (by decide)), if_neg (hn 1 (by decide)), if_neg (hn 2 (by decide)), if_neg (hn 3 (by decide)), if_neg (hn 4 (by decide)), if_neg (hn 5 (by decide)), if_neg (hn 6 (by decide)), if_neg (hn 7 (by decide))]
theorem case_ship {k : Int32 → zMi → zMl → Option Int32} {v4 : Int32} (h : INV K M x b) (hb : b = x + 386) (hK : K < 700000000) (hg1 : inb (v4 + 1) len = true) (hg2 : inb (v4 + 2) len = true) : goes K x b k v4 (f_L_law_414 F len xs x b o k v4 M X) := by
  generalize hp : xs (ix (v4 + (1 : Int32))) = p
  generalize hq : xs (ix (v4 + (2 : Int32))) = q
  unfold f_L_law_414 f_L_ship f_X11_ship
  rw [hg1, hg2, grd_t, grd_t, hp, hq]
  by_cases c : 0 ≤ p ∧ p ≤ M (b + 3) 5 - 1
  · by_cases c2 : 0 ≤ q ∧ q ≤ 7
    · obtain ⟨s, hs, rfl, hs5⟩ := s_of h.2.2.1 c
      obtain ⟨v, e1, e2⟩ := ship_in (F := F) h hs c c2
      rw [e1, calp_r, bnd_e, cal_s, grd_t, grd_t]
      dsimp only
      rw [m_isShip, cal_s, if_pos c, if_neg (show ¬ (1 : Int32) = 0 by decide), m_in07, cal_s, if_pos c2, if_neg (show ¬ (1 : Int32) = 0 by decide), e2]
      exact rd_ok h hb hK (fun _ => wL_s)
    · rw [ship_o2 h c c2, calp_l, if_neg (show ¬ (1 : Nat) = 3 by decide), if_pos rfl, cal_s, grd_t, grd_t]
      dsimp only
      unfold f_X11_ship_33
      rw [m_isShip, cal_s, if_pos c, if_neg (show ¬ (1 : Int32) = 0 by decide), m_in07, cal_s, if_neg c2, if_pos rfl, m_r1 (by decide), cal_s, if_neg (show ¬ (1 : Int32) = 0 by decide)]
      exact rd_ok (v := 0) h hb hK (fun q => absurd q (by decide))
  · unfold f_X10_ship f_X11_ship_33
    rw [c_exS h.2.1 h.2.2.1, if_neg c, calp_l, calp_l, if_pos rfl, cal_s, grd_t, grd_t]
    dsimp only
    rw [m_isShip, cal_s, if_neg c, if_pos rfl, m_r1 (by decide), cal_s, if_neg (show ¬ (1 : Int32) = 0 by decide)]
    exact rd_ok (v := 0) h hb hK (fun q => absurd q (by decide))
end
section
variable {F x b o K len : Nat} {M N : zMi} {X : zMl} {xs : Nat → Int32} {A : Pg}
def accT (b : Nat) (p v : Int32) (N : zMi) : Option (Int32 × zMi) := (if p = (3 : Int32) then some (v, N) else (if p < (3 : Int32) then grd (inb ((16 : Int32) + p) 121) (some ((N (b + 3) (ix ((16 : Int32) + p))), N)) else grd (inb ((16 : Int32) + (p - (1 : Int32))) 121) (some ((N (b + 3) (ix ((16 : Int32) + (p - (1 : Int32))))), N))))
theorem m_accStep {n s : Nat} {p v : Int32} (hs : s < 4) : f_X11_account_30 F b p (n + 1) v (nI s) N = if nI s < N (b + 3) 5 then f_X11_account_30 F b p n (v + N (b + 3) (59 + 8 * s + 4)) (nI (s + 1)) N else accT b p v N := by
  rw [f_X11_account_30]
  unfold accT
  simp (disch := omega) only [m_shipAt, cal_s, bnd_e, ad4, ad1, inbN, ixN, grd_t]
theorem m_accEnd {n : Nat} {p v y : Int32} (h : ¬ y < N (b + 3) 5) : f_X11_account_30 F b p (n + 1) v y N = accT b p v N := by
  rw [f_X11_account_30]; unfold accT; rw [if_neg h]
theorem m_acc {p : Int32} (hF : 5 ≤ F) (hA : N (b + 3) = A) (h : wFl A) : f_X11_account_30 F b p F 0 0 N = accT b p (dAb A) N := by
  have a1 := fun q => wFl_a h (s := 1) (k := 4) (by decide) q (by decide)
  have a2 := fun q => wFl_a h (s := 2) (k := 4) (by decide) q (by decide)
  have a3 := fun q => wFl_a h (s := 3) (k := 4) (by decide) q (by decide)
  have c0 : nI 0 < A 5 := by rcases h.1 with h5 | h5 | h5 | h5 <;> rw [h5] <;> decide
  have c4 : ¬ nI 4 < A 5 := by rcases h.1 with h5 | h5 | h5 | h5 <;> rw [h5] <;> decide
  have c12 : nI 2 < A 5 → nI 1 < A 5 := by rcases h.1 with h5 | h5 | h5 | h5 <;> rw [h5] <;> decide
  have c23 : nI 3 < A 5 → nI 2 < A 5 := by rcases h.1 with h5 | h5 | h5 | h5 <;> rw [h5] <;> decide
  obtain ⟨m, hm⟩ : ∃ m, F = m + 5 := ⟨F - 5, by omega⟩
  have hh : ∀ F', F' = F → f_X11_account_30 F b p F' 0 (nI 0) N = accT b p (dAb A) N := by
    intro F' hF'
    rw [hF', show f_X11_account_30 F b p F = f_X11_account_30 F b p (m + 5) from by rw [← hm]]
    rw [m_accStep (by decide), m_accStep (by decide), m_accStep (by decide), m_accStep (by decide), m_accEnd (by rw [hA]; exact c4), hA, if_pos c0]
    simp only [Nat.reduceAdd, Nat.reduceMul] at *
    unfold dAb
    by_cases b1 : nI 1 < A 5
    · rw [if_pos b1]
      by_cases b2 : nI 2 < A 5
      · rw [if_pos b2]
        by_cases b3 : nI 3 < A 5
        · rw [if_pos b3]
        · rw [if_neg b3, a3 b3, Int32.add_zero]
      · rw [if_neg b2, a2 b2, a3 (fun x => b2 (c23 x)), Int32.add_zero, Int32.add_zero]
    · rw [if_neg b1, a1 b1, a2 (fun x => b1 (c12 x)), a3 (fun x => b1 (c12 (c23 x))), Int32.add_zero, Int32.add_zero, Int32.add_zero]
  exact hh F rfl
theorem acc_in {p : Int32} (h : INV K M x b) (hF : 5 ≤ F) (c : 0 ≤ p ∧ p ≤ 7) : ∃ v, f_X10_account F x p M = some (.inr v) ∧ f_X11_account_18 F b p 0 M = some (v, wI M b 0 0) := by
  have hR := h.2.1
  have hA := h.2.2.1
  obtain ⟨l0, l1, l2, l3, l4, l5, l6⟩ := hR.2.1
  have g3 : wI M b 0 0 (b + 3) = M (b + 3) := wI_ne (by omega)
  have i16 : inb (16 : Int32) 121 = true ∧ ix (16 : Int32) = 16 := ⟨inbN (a := 16) (by decide) (by decide), ixN (a := 16) (by decide)⟩
  have i17 : inb (17 : Int32) 121 = true ∧ ix (17 : Int32) = 17 := ⟨inbN (a := 17) (by decide) (by decide), ixN (a := 17) (by decide)⟩
  have i18 : inb (18 : Int32) 121 = true ∧ ix (18 : Int32) = 18 := ⟨inbN (a := 18) (by decide) (by decide), ixN (a := 18) (by decide)⟩
  have i19 : inb (19 : Int32) 121 = true ∧ ix (19 : Int32) = 19 := ⟨inbN (a := 19) (by decide) (by decide), ixN (a := 19) (by decide)⟩
  have i20 : inb (20 : Int32) 121 = true ∧ ix (20 : Int32) = 20 := ⟨inbN (a := 20) (by decide) (by decide), ixN (a := 20) (by decide)⟩
  have i21 : inb (21 : Int32) 121 = true ∧ ix (21 : Int32) = 21 := ⟨inbN (a := 21) (by decide) (by decide), ixN (a := 21) (by decide)⟩
  have i22 : inb (22 : Int32) 121 = true ∧ ix (22 : Int32) = 22 := ⟨inbN (a := 22) (by decide) (by decide), ixN (a := 22) (by decide)⟩
  have ca := c_ab (F := F) hR hF
  unfold f_X10_account f_X11_account_18
  rw [m_r0, cal_s, if_pos rfl]
  dsimp only
  rw [m_acc hF g3 hA.1]
  unfold accT
  rw [g3]
  rcases in8 c with rfl | rfl | rfl | rfl | rfl | rfl | rfl | rfl <;> simp (decide := true) only [Int32.reduceAdd, Int32.reduceSub, ↓reduceIte, i16, i17, i18, i19, i20, i21, i22, grd_t, l0, l1, l2, l3, l4, l5, l6, ca, cal_s] <;> exact ⟨_, rfl, rfl⟩
theorem acc_o {p : Int32} (c : ¬ (0 ≤ p ∧ p ≤ 7)) : f_X10_account F x p M = some (.inl 1) := by
  have hn : ∀ j : Int32, (0 ≤ j ∧ j ≤ 7) → ¬ p = j := fun j hj e => c (by rw [e]; exact hj)
  unfold f_X10_account
  rw [if_neg (hn 0 (by decide)), if_neg (hn 1 (by decide)), if_neg (hn 2 (by decide)), if_neg (hn 3 (by decide)), if_neg (hn 4 (by decide)), if_neg (hn 5 (by decide)), if_neg (hn 6 (by decide)), if_neg (hn 7 (by decide))]
theorem case_account {k : Int32 → zMi → zMl → Option Int32} {v4 : Int32} (h : INV K M x b) (hb : b = x + 386) (hK : K < 700000000) (hF : 1573 < F) (hg : inb (v4 + 1) len = true) : goes K x b k v4 (f_L_law_538 F len xs x b o k v4 M X) := by
  generalize hp : xs (ix (v4 + (1 : Int32))) = p
  unfold f_L_law_538 f_L_account f_X11_account
  rw [hg, grd_t, hp]
  by_cases c : 0 ≤ p ∧ p ≤ 7
  · obtain ⟨v, e1, e2⟩ := acc_in (F := F) h (by omega) c
    rw [e1, calp_r, bnd_e, cal_s, grd_t]
    dsimp only
    rw [m_in07, cal_s, if_pos c, if_neg (show ¬ (1 : Int32) = 0 by decide), e2]
    exact rd_ok h hb hK (fun _ => wL_s)
  · rw [acc_o c, calp_l, if_pos rfl, cal_s, grd_t]
    dsimp only
    unfold f_X11_account_18
    rw [m_in07, cal_s, if_neg c, if_pos rfl, m_r1 (by decide), cal_s, if_neg (show ¬ (1 : Int32) = 0 by decide)]
    exact rd_ok (v := 0) h hb hK (fun q => absurd q (by decide))
/-- the most units, in the class -/
theorem c_mostU {a s z l : Nat} {lim : Int32} (h : RC M a A) (hs : s < 4) (hz : z < 9) (hz4 : nI z < A 4) (hl : l ≤ 9) (h3 : A (23 + 4 * z + 3) = nI l) : f_X9_mostUnits F (a + 8 + z) lim (M (a + 17 + s) 4) M = some (dMost A s z lim) := by
  have e : (100 : Int32) + nI l = nI (100 + l) := nI_add 100 l
  unfold f_X9_mostUnits dMost
  rw [RC_z h hz hz4 (by decide), RC_s h hs (by decide), h3, bnd_e, e, if_pos (show (0 : Int32) < nI (100 + l) from nI_lt (a := 0) (by omega) (by omega)), show (!decide (nI (100 + l) = 0)) = true from by simp [nI_ne0 (n := 100 + l) (by omega) (by omega)], grd_t]
theorem case_reach {k : Int32 → zMi → zMl → Option Int32} {v4 : Int32} (h : INV K M x b) (hb : b = x + 386) (hK : K < 700000000) (hF : 1573 < F) (hg1 : inb (v4 + 1) len = true) (hg2 : inb (v4 + 2) len = true) : goes K x b k v4 (f_L_law_1134 F len xs x b o k v4 M X) := by
  generalize hp : xs (ix (v4 + (1 : Int32))) = p
  generalize hq : xs (ix (v4 + (2 : Int32))) = q
  have hA := h.2.2.1
  have g3 : wI M b 0 0 (b + 3) = M (b + 3) := wI_ne (by omega)
  unfold f_L_law_1134 f_L_reach f_X10_reach f_X11_reach f_X11_reach_28
  rw [hg1, hg2, grd_t, grd_t, hp, hq, c_exS h.2.1 hA]
  by_cases c : 0 ≤ p ∧ p ≤ M (b + 3) 5 - 1
  · rw [if_pos c, calp_r, c_exZ h.2.1 hA]
    by_cases c2 : 0 ≤ q ∧ q ≤ M (b + 3) 4 - 1
    · obtain ⟨s, hs, rfl, hs5⟩ := s_of hA c
      obtain ⟨z, hz, rfl, hz4⟩ := z_of hA c2
      obtain ⟨w0, w1, w2, w3⟩ := hA.2.2.2.2.2.2.1 z hz hz4
      obtain ⟨u0, u1, u2, u3⟩ := hA.2.2.2.2.2.2.2 s hs
      obtain ⟨l, hl, e3⟩ := exN (n := 9) w3.1 w3.2 (by decide)
      obtain ⟨u, hu, e0⟩ := exN (n := 99) (x := M (b + 3) (23 + 4 * z)) (by grind) w0.2 (by decide)
      obtain ⟨cc, hc, e4⟩ := exN (n := 999) (x := M (b + 3) (59 + 8 * s + 4)) u2.1 (by show _ ≤ 999; grind) (by decide)
      have mm := m_most (F := F) (r := b + 3) (M := wI M b 0 0) (A := M (b + 3)) hs hz hu hl hc e3 e4 (by omega)
      rw [pR_0] at mm
      rw [if_pos c2, calp_r, ixN (by omega), ixN (by omega), c_mostU h.2.1 hs hz hz4 hl e3, cal_s, calp_r, bnd_e, cal_s, grd_t, grd_t]
      dsimp only
      rw [m_isShip, cal_s, if_pos c, if_neg (show ¬ (1 : Int32) = 0 by decide), m_isZone, cal_s, if_pos c2, if_neg (show ¬ (1 : Int32) = 0 by decide), m_r0, cal_s, if_pos rfl]
      dsimp only
      rw [m_zoneAt, cal_s, inbN (by omega) (by omega), grd_t, ixN (by omega), g3, e0, mm, cal_s]
      refine rd_ok h hb hK (fun _ => ?_)
      rw [wL_s, show M (x + 3 + 8 + z) 0 = M (b + 3) (23 + 4 * z) from RC_z h.2.1 hz hz4 (k := 0) (by decide), e0]
    · rw [if_neg c2, calp_l, calp_l, if_pos rfl, cal_s, grd_t, grd_t]
      dsimp only
      rw [m_isShip, cal_s, if_pos c, if_neg (show ¬ (1 : Int32) = 0 by decide), m_isZone, cal_s, if_neg c2, if_pos rfl, m_r1 (by decide), cal_s, if_neg (show ¬ (1 : Int32) = 0 by decide)]
      exact rd_ok (v := 0) h hb hK (fun q => absurd q (by decide))
  · rw [if_neg c, calp_l, calp_l, if_pos rfl, cal_s, grd_t, grd_t]
    dsimp only
    rw [m_isShip, cal_s, if_neg c, if_pos rfl, m_r1 (by decide), cal_s, if_neg (show ¬ (1 : Int32) = 0 by decide)]
    exact rd_ok (v := 0) h hb hK (fun q => absurd q (by decide))
end
section
variable {F x b o K len : Nat} {M N : zMi} {X : zMl} {xs : Nat → Int32} {A : Pg}
noncomputable def dCalm (s : Nat) (A : Pg) : Nat → Nat → Int32 → Int32
  | 0, _, v => v
  | j + 1, d, v => dCalm s A j (d + 1) (if A (59 + 8 * s + 2) < dWav A (nI d) then v else v + 1)
theorem c_calm {p1 p2 : Int32} {s z e w : Nat} (h : RC M (x + 3) A) (hs : s < 4) (hz : z < 9) (hz4 : nI z < A 4) (hw0 : 0 < w) (hw2 : w ≤ 30) (h6 : A 6 = nI w) (he : A (23 + 4 * z + 2) = nI e) (he2 : e ≤ 999) {j : Nat} : ∀ {d fu : Nat} {v : Int32}, (d + j = e + 1 ∨ (j = 0 ∧ e < d)) → d < 2000000000 → j < fu → f_X10_calmDays_36 F x p1 p2 fu (x + 3 + 17 + s) (x + 3 + 8 + z) v (nI d) M = some (.inr (dCalm s A j d v)) := by
  induction j with
  | zero =>
    intro d fu v hd hd2 hf
    obtain ⟨n, rfl⟩ : ∃ n, fu = n + 1 := ⟨fu - 1, by omega⟩
    rw [f_X10_calmDays_36, RC_z h hz hz4 (by decide), he, if_pos (nI_lt (a := e) (b := d) (by omega) (by omega))]
    rfl
  | succ j ih =>
    intro d fu v hd hd2 hf
    obtain ⟨n, rfl⟩ : ∃ n, fu = n + 1 := ⟨fu - 1, by omega⟩
    rw [f_X10_calmDays_36, RC_z h hz hz4 (by decide), he, if_neg (nI_nlt (b := d) (a := e) (by omega) (by omega)), c_on h (by omega) hw0 hw2 h6, cal_s, RC_s h hs (by decide), ad1]
    unfold dCalm
    by_cases k : A (59 + 8 * s + 2) < dWav A (nI d)
    · rw [if_pos k, if_pos k]; exact ih (by omega) (by omega) (by omega)
    · rw [if_neg k, if_neg k]; exact ih (by omega) (by omega) (by omega)
theorem m_calm {s z e w : Nat} (hN : N (b + 3) = A) (hs : s < 4) (hz : z < 9) (hw0 : 0 < w) (hw2 : w ≤ 30) (h6 : A 6 = nI w) (he : A (23 + 4 * z + 2) = nI e) (he2 : e ≤ 999) {j : Nat} : ∀ {d fu : Nat} {v : Int32}, (d + j = e + 1 ∨ (j = 0 ∧ e < d)) → d < 2000000000 → j < fu → f_X11_calmDays_73 F b (nI s) (nI z) fu v (nI d) N = some (dCalm s A j d v, N) := by
  induction j with
  | zero =>
    intro d fu v hd hd2 hf
    obtain ⟨n, rfl⟩ : ∃ n, fu = n + 1 := ⟨fu - 1, by omega⟩
    rw [f_X11_calmDays_73, m_zoneAt, cal_s, ad2, inbN (by omega) (by omega), grd_t, hN, ixN (by omega), he, if_pos (nI_lt (a := e) (b := d) (by omega) (by omega))]
    rfl
  | succ j ih =>
    intro d fu v hd hd2 hf
    obtain ⟨n, rfl⟩ : ∃ n, fu = n + 1 := ⟨fu - 1, by omega⟩
    have mw := m_waves (F := F) (r := b + 3) (M := N) (A := A) (d := d) (by omega) hw0 hw2 h6
    rw [show pR N (b + 3) A = N from by rw [← hN]; exact pR_i] at mw
    rw [f_X11_calmDays_73, m_zoneAt, cal_s, ad2, inbN (by omega) (by omega), grd_t, hN, ixN (by omega), he, if_neg (nI_nlt (b := d) (a := e) (by omega) (by omega)), mw, cal_s, m_shipAt, cal_s, ad2, inbN (by omega) (by omega), grd_t, ixN (by omega), ad1, bnd_e, bnd_e, Int32.add_zero]
    unfold dCalm
    by_cases k : A (59 + 8 * s + 2) < dWav A (nI d)
    · rw [if_pos k, if_pos k]; exact ih (by omega) (by omega) (by omega)
    · rw [if_neg k, if_neg k]; exact ih (by omega) (by omega) (by omega)
theorem case_calmDays {k : Int32 → zMi → zMl → Option Int32} {v4 : Int32} (h : INV K M x b) (hb : b = x + 386) (hK : K < 700000000) (hF : 1573 < F) (hg1 : inb (v4 + 1) len = true) (hg2 : inb (v4 + 2) len = true) : goes K x b k v4 (f_L_law_1202 F len xs x b o k v4 M X) := by
  generalize hp : xs (ix (v4 + (1 : Int32))) = p
  generalize hq : xs (ix (v4 + (2 : Int32))) = q
  have hA := h.2.2.1
  have g3 : wI M b 0 0 (b + 3) = M (b + 3) := wI_ne (by omega)
  unfold f_L_law_1202 f_L_calmDays f_X10_calmDays f_X11_calmDays f_X11_calmDays_28
  rw [hg1, hg2, grd_t, grd_t, hp, hq, c_exS h.2.1 hA]
  by_cases c : 0 ≤ p ∧ p ≤ M (b + 3) 5 - 1
  · rw [if_pos c, calp_r, c_exZ h.2.1 hA]
    by_cases c2 : 0 ≤ q ∧ q ≤ M (b + 3) 4 - 1
    · obtain ⟨s, hs, rfl, hs5⟩ := s_of hA c
      obtain ⟨z, hz, rfl, hz4⟩ := z_of hA c2
      obtain ⟨w0, w1, w2, w3⟩ := hA.2.2.2.2.2.2.1 z hz hz4
      obtain ⟨f, hf, e1⟩ := exN (n := 99) w1.1 w1.2 (by decide)
      obtain ⟨e, he, e2⟩ := exN (n := 999) w2.1 w2.2 (by decide)
      obtain ⟨t, ht, e3⟩ := exN (n := K) hA.2.2.1.2.2.1.1 hA.2.2.1.2.2.1.2 (by omega)
      obtain ⟨w, hw0, hw1, hw⟩ := WF_6 hA
      obtain ⟨d0, hd0, y1, y2⟩ : ∃ d0, d0 < 2000000000 ∧ zmax (nI t) (nI f) = nI d0 ∧ (if nI f < nI t then nI t else nI f) = nI d0 := by
        unfold zmax
        by_cases ee : f < t
        · exact ⟨t, by omega, by rw [if_neg (nI_nlt (by omega) (by omega))], by rw [if_pos (nI_lt ee (by omega))]⟩
        · by_cases ee2 : t < f
          · exact ⟨f, by omega, by rw [if_pos (nI_lt ee2 (by omega))], by rw [if_neg (nI_nlt (by omega) (by omega))]⟩
          · have : t = f := by omega
            subst this
            exact ⟨t, by omega, by rw [if_neg (nI_nlt (by omega) (by omega))], by rw [if_neg (nI_nlt (by omega) (by omega))]⟩
      have hj : d0 + (e + 1 - d0) = e + 1 ∨ (e + 1 - d0 = 0 ∧ e < d0) := by omega
      have cc := c_calm (F := F) (p1 := nI s) (p2 := nI z) (v := 0) (fu := F) h.2.1 hs hz hz4 hw0 hw1 hw e2 he hj hd0 (by omega)
      have mm := m_calm (F := F) (v := 0) (fu := F) g3 hs hz hw0 hw1 hw e2 he hj hd0 (by omega)
      rw [if_pos c2, calp_r, ixN (by omega), ixN (by omega), bnd_e, show M (x + 3) 8 = nI t from h.2.1.1.2.2.2.1.trans e3, RC_z h.2.1 hz hz4 (by decide), e1, y1, cc, calp_r, bnd_e, cal_s, grd_t, grd_t]
      dsimp only
      rw [m_isShip, cal_s, if_pos c, if_neg (show ¬ (1 : Int32) = 0 by decide), m_isZone, cal_s, if_pos c2, if_neg (show ¬ (1 : Int32) = 0 by decide), m_r0, cal_s, if_pos rfl]
      dsimp only
      rw [m_zoneAt, cal_s, ad1, inbN (by omega) (by omega), grd_t, ixN (by omega)]
      simp only [g3, e1, e3, bnd_e]
      have fin : (if nI f < nI t then f_X11_calmDays_73 F b (nI s) (nI z) F (0 : Int32) (nI t) (wI M b 0 0) else f_X11_calmDays_73 F b (nI s) (nI z) F (0 : Int32) (nI f) (wI M b 0 0)) = f_X11_calmDays_73 F b (nI s) (nI z) F (0 : Int32) (if nI f < nI t then nI t else nI f) (wI M b 0 0) := by split <;> rfl
      rw [fin, y2, mm]
      exact rd_ok h hb hK (fun _ => wL_s)
    · rw [if_neg c2, calp_l, calp_l, if_pos rfl, cal_s, grd_t, grd_t]
      dsimp only
      rw [m_isShip, cal_s, if_pos c, if_neg (show ¬ (1 : Int32) = 0 by decide), m_isZone, cal_s, if_neg c2, if_pos rfl, m_r1 (by decide), cal_s, if_neg (show ¬ (1 : Int32) = 0 by decide)]
      exact rd_ok (v := 0) h hb hK (fun q => absurd q (by decide))
  · rw [if_neg c, calp_l, calp_l, if_pos rfl, cal_s, grd_t, grd_t]
    dsimp only
    rw [m_isShip, cal_s, if_neg c, if_pos rfl, m_r1 (by decide), cal_s, if_neg (show ¬ (1 : Int32) = 0 by decide)]
    exact rd_ok (v := 0) h hb hK (fun q => absurd q (by decide))
end
section
variable {F x a r b o K len : Nat} {M N : zMi} {X : zMl} {xs : Nat → Int32} {A : Pg}
def canT (s : Nat) (u : Int32) (A : Pg) : Prop := A (59 + 8 * s + 5) = 0 ∧ ¬ A 2 < u ∧ ¬ A (59 + 8 * s) - A (59 + 8 * s + 4) < u
theorem c_canTake {s : Nat} {u : Int32} (h : RC M a A) (hs : s < 4) (hu : 1 ≤ u) : (canT s u A ∧ f_X5_canLoadOnto F a (a + 17 + s) u M = some 1) ∨ (¬ canT s u A ∧ f_X5_canLoadOnto F a (a + 17 + s) u M = some 0) := by
  have z0 : M (a + 17 + s) 0 = A (59 + 8 * s) := RC_s h hs (k := 0) (by decide)
  unfold f_X5_canLoadOnto canT
  rw [if_neg (show ¬ u < 1 by grind), z0, RC_s h hs (k := 5) (by decide), RC_s h hs (k := 4) (by decide), h.1.2.2.1]
  by_cases k1 : A (59 + 8 * s + 5) = 0
  · rw [if_pos k1]
    by_cases k2 : A 2 < u
    · rw [if_pos k2]; exact Or.inr ⟨fun y => y.2.1 k2, rfl⟩
    · rw [if_neg k2]
      by_cases k3 : A (59 + 8 * s) - A (59 + 8 * s + 4) < u
      · rw [if_pos k3]; exact Or.inr ⟨fun y => y.2.2 k3, rfl⟩
      · rw [if_neg k3]; exact Or.inl ⟨⟨k1, k2, k3⟩, rfl⟩
  · rw [if_neg k1]; exact Or.inr ⟨fun y => k1 y.1, rfl⟩
theorem m_canTake {s : Nat} {u : Int32} (hN : N r = A) (hs : s < 4) : (canT s u A → f_X11_canTake F r (nI s) u N = some 1) ∧ (¬ canT s u A → f_X11_canTake F r (nI s) u N = some 0) := by
  unfold f_X11_canTake canT
  rw [hN]
  simp (disch := omega) only [m_shipAt, cal_s, ad5, ad4, inbN, ixN, grd_t]
  refine ⟨fun ⟨k1, k2, k3⟩ => by rw [if_pos k1, if_neg k2, if_neg k3], fun hn => ?_⟩
  by_cases k1 : A (59 + 8 * s + 5) = 0
  · rw [if_pos k1]
    by_cases k2 : A 2 < u
    · rw [if_pos k2]
    · rw [if_neg k2, if_pos]
      apply Classical.byContradiction
      intro k3
      exact hn ⟨k1, k2, k3⟩
  · rw [if_neg k1]
theorem case_take {k : Int32 → zMi → zMl → Option Int32} {v4 : Int32} (h : INV K M x b) (hb : b = x + 386) (hK : K < 700000000) (hF : 1573 < F) (hg1 : inb (v4 + 1) len = true) (hg2 : inb (v4 + 2) len = true) : goes K x b k v4 (f_L_law_594 F len xs x b o k v4 M X) := by
  generalize hp : xs (ix (v4 + (1 : Int32))) = p
  generalize hu : xs (ix (v4 + (2 : Int32))) = u
  have hA := h.2.2.1
  have hR := h.2.1
  unfold f_L_law_594 f_L_take f_X10_take f_X11_take f_X11_take_49
  rw [hg1, hg2, grd_t, grd_t, hp, hu, c_exS hR hA]
  by_cases c : 0 ≤ p ∧ p ≤ M (b + 3) 5 - 1
  · obtain ⟨s, hs, rfl, hs5⟩ := s_of hA c
    rw [if_pos c, calp_r, ixN (by omega), c_rr]
    by_cases c2 : 1 ≤ u ∧ u ≤ 999
    · rw [if_pos c2, calp_r]
      rcases c_canTake (F := F) hR hs c2.1 with ⟨c3, e3⟩ | ⟨c3, e3⟩
      · obtain ⟨M1, a1, a2, a3⟩ := INV_act (F := F) h hb (by omega) hF
        obtain ⟨M2, b1, b2, b3⟩ := c_take (F := F) (u := u) a2 hs
        obtain ⟨M4, d1, d2, d0, dr, d3⟩ := a3 M2 b2
        have hW : WF (K + 99) (dTake s u (M (b + 3))) := WF_mono (WF_take hA hs hs5 ⟨by grind, by have := c3.2.1; grind, by have := c3.2.2; grind⟩) (by omega) (by omega)
        have eM : pR M4 (b + 3) (M (b + 3)) = M4 := by rw [← d2]; exact pR_i
        have mb := m_take (F := F) (r := b + 3) (M := M4) (A := M (b + 3)) (u := u) hs
        rw [eM] at mb
        have mc := (m_canTake (F := F) (u := u) dr hs).1 c3
        have v2 : M2 (x + 3 + 17 + s) 4 = dTake s u (M (b + 3)) (59 + 8 * s + 4) := RC_s b3 hs (by decide)
        unfold f_X10_require
        rw [e3, cal_s, if_neg (show ¬ (1 : Int32) = 0 by decide), calp_r, a1, cal_s, b1, cal_s, calw_r, bnd_e, cal_s, grd_t, grd_t]
        dsimp only
        rw [m_isShip, cal_s, if_pos (show 0 ≤ nI s ∧ nI s ≤ M2 (b + 3) 5 - 1 by rw [dr]; exact c), if_neg (show ¬ (1 : Int32) = 0 by decide), m_in1999, cal_s, if_pos c2, if_neg (show ¬ (1 : Int32) = 0 by decide), mc, cal_s, if_neg (show ¬ (1 : Int32) = 0 by decide), m_r0, cal_s, if_pos rfl]
        dsimp only
        rw [d1, cal_s, mb, cal_s, m_shipAt, cal_s, ad4, inbN (by omega) (by omega), grd_t, pR_s, ixN (by omega)]
        exact ac_ok (by rw [pR_n (by omega)]; exact d0) (d3 _ b3 hW) (fun _ => by rw [wL_s, v2])
      · have mc := (m_canTake (F := F) (u := u) (N := M) (r := b + 3) rfl hs).2 c3
        unfold f_X10_require
        rw [e3, cal_s, if_pos rfl, calp_l, calw_l, if_neg (show ¬ (2 : Nat) = 3 by decide), if_neg (show ¬ (2 : Nat) = 1 by decide), if_pos rfl, cal_s, grd_t, grd_t]
        dsimp only
        rw [m_isShip, cal_s, if_pos c, if_neg (show ¬ (1 : Int32) = 0 by decide), m_in1999, cal_s, if_pos c2, if_neg (show ¬ (1 : Int32) = 0 by decide), mc, cal_s, if_pos rfl, m_r1 (by decide), cal_s, if_neg (show ¬ (1 : Int32) = 0 by decide)]
        exact rd_ok (v := 0) h hb hK (fun q => absurd q (by decide))
    · rw [if_neg c2, calp_l, calw_l, if_neg (show ¬ (1 : Nat) = 3 by decide), if_pos rfl, cal_s, grd_t, grd_t]
      dsimp only
      rw [m_isShip, cal_s, if_pos c, if_neg (show ¬ (1 : Int32) = 0 by decide), m_in1999, cal_s, if_neg c2, if_pos rfl, m_r1 (by decide), cal_s, if_neg (show ¬ (1 : Int32) = 0 by decide)]
      exact rd_ok (v := 0) h hb hK (fun q => absurd q (by decide))
  · rw [if_neg c, calp_l, calw_l, if_pos rfl, cal_s, grd_t, grd_t]
    dsimp only
    rw [m_isShip, cal_s, if_neg c, if_pos rfl, m_r1 (by decide), cal_s, if_neg (show ¬ (1 : Int32) = 0 by decide)]
    exact rd_ok (v := 0) h hb hK (fun q => absurd q (by decide))
theorem case_send {k : Int32 → zMi → zMl → Option Int32} {v4 : Int32} (h : INV K M x b) (hb : b = x + 386) (hK : K < 700000000) (hF : 1573 < F) (hg : inb (v4 + 1) len = true) : goes K x b k v4 (f_L_law_662 F len xs x b o k v4 M X) := by
  generalize hp : xs (ix (v4 + (1 : Int32))) = p
  have hA := h.2.2.1
  have hR := h.2.1
  unfold f_L_law_662 f_L_send f_X10_send f_X11_send f_X11_send_32
  rw [hg, grd_t, hp, c_exS hR hA]
  by_cases c : 0 ≤ p ∧ p ≤ M (b + 3) 5 - 1
  · obtain ⟨s, hs, rfl, hs5⟩ := s_of hA c
    rw [if_pos c, calp_r, ixN (by omega), c_canSend hR hs hA.2.2.1.2.2.2.2.2.1.2, cal_s]
    by_cases c3 : M (b + 3) (59 + 8 * s + 5) = 0 ∧ M (b + 3) 7 ≠ M (b + 3) 4
    · obtain ⟨M1, a1, a2, a3⟩ := INV_act (F := F) h hb (by omega) hF
      obtain ⟨M2, b1, b2, b3⟩ := c_send (F := F) a2 hs
      obtain ⟨M4, d1, d2, d0, dr, d3⟩ := a3 M2 b2
      have hW : WF (K + 99) (dSend s (M (b + 3))) := WF_mono (WF_send hA hs hs5 c3.1) (by omega) (by omega)
      have eM : pR M4 (b + 3) (M (b + 3)) = M4 := by rw [← d2]; exact pR_i
      have mb := m_send (F := F) (r := b + 3) (M := M4) (A := M (b + 3)) hs
      rw [eM] at mb
      have mc := m_canSend (F := F) (r := b + 3) (M := M2) (A := M (b + 3)) hs
      rw [show pR M2 (b + 3) (M (b + 3)) = M2 from by rw [← dr]; exact pR_i, if_pos c3] at mc
      have v2 : M2 (x + 3 + 17 + s) 6 = M (b + 3) 7 + 1 := by
        rw [RC_s b3 hs (by decide)]; unfold dSend; exact pU_s
      unfold f_X10_require
      rw [if_pos c3, if_neg (show ¬ (1 : Int32) = 0 by decide), calp_r, a1, cal_s, b1, cal_s, calw_r, bnd_e, cal_s, grd_t]
      dsimp only
      rw [m_isShip, cal_s, if_pos (show 0 ≤ nI s ∧ nI s ≤ M2 (b + 3) 5 - 1 by rw [dr]; exact c), if_neg (show ¬ (1 : Int32) = 0 by decide), mc, cal_s, if_neg (show ¬ (1 : Int32) = 0 by decide), m_r0, cal_s, if_pos rfl]
      dsimp only
      rw [d1, cal_s, mb, cal_s]
      dsimp only
      exact ac_ok (by rw [pR_n (by omega)]; exact d0) (d3 _ b3 hW) (fun _ => by rw [wL_s, v2])
    · have mc := m_canSend (F := F) (r := b + 3) (M := M) (A := M (b + 3)) hs
      rw [pR_i, if_neg c3] at mc
      unfold f_X10_require
      rw [if_neg c3, if_pos rfl, calp_l, calw_l, if_neg (show ¬ (2 : Nat) = 3 by decide), if_pos rfl, cal_s, grd_t]
      dsimp only
      rw [m_isShip, cal_s, if_pos c, if_neg (show ¬ (1 : Int32) = 0 by decide), mc, cal_s, if_pos rfl, m_r1 (by decide), cal_s, if_neg (show ¬ (1 : Int32) = 0 by decide)]
      exact rd_ok (v := 0) h hb hK (fun q => absurd q (by decide))
  · rw [if_neg c, calp_l, calw_l, if_pos rfl, cal_s, grd_t]
    dsimp only
    rw [m_isShip, cal_s, if_neg c, if_pos rfl, m_r1 (by decide), cal_s, if_neg (show ¬ (1 : Int32) = 0 by decide)]
    exact rd_ok (v := 0) h hb hK (fun q => absurd q (by decide))
theorem c_canRecall {s : Nat} (h : RC M a A) (hs : s < 4) : f_X5_canCallHome F a (a + 17 + s) M = some (if A (59 + 8 * s + 5) = 2 ∨ A (59 + 8 * s + 5) = 3 then 1 else 0) := by
  unfold f_X5_canCallHome
  rw [RC_s h hs (by decide)]
  by_cases k1 : A (59 + 8 * s + 5) = 2
  · rw [if_pos k1, if_pos (Or.inl k1)]
  · rw [if_neg k1]
    by_cases k2 : A (59 + 8 * s + 5) = 3
    · rw [if_pos k2, if_pos (Or.inr k2)]
    · rw [if_neg k2, if_neg (by rintro (y | y); exact k1 y; exact k2 y)]
theorem m_in23 {p : Int32} : f_X11_in F p.toInt64 (2 : Int64) (3 : Int64) M = some (if 2 ≤ p ∧ p ≤ 3 then 1 else 0) := m_in3 (y := 2) (z := 3)
theorem m_canRecall {s : Nat} (hN : N r = A) (hs : s < 4) : f_X11_canRecall F r (nI s) N = some (if A (59 + 8 * s + 5) = 2 ∨ A (59 + 8 * s + 5) = 3 then 1 else 0) := by
  unfold f_X11_canRecall
  rw [hN]
  simp (disch := omega) only [m_shipAt, cal_s, ad5, inbN, ixN, grd_t]
  rw [m_in23, cal_s]
  by_cases k : A (59 + 8 * s + 5) = 2 ∨ A (59 + 8 * s + 5) = 3
  · rw [if_pos k, if_pos (by rcases k with k | k <;> rw [k] <;> decide)]; rfl
  · rw [if_neg k, if_neg (fun y => k (by grind))]; rfl
theorem case_recall {k : Int32 → zMi → zMl → Option Int32} {v4 : Int32} (h : INV K M x b) (hb : b = x + 386) (hK : K < 700000000) (hF : 1573 < F) (hg : inb (v4 + 1) len = true) : goes K x b k v4 (f_L_law_718 F len xs x b o k v4 M X) := by
  generalize hp : xs (ix (v4 + (1 : Int32))) = p
  have hA := h.2.2.1
  have hR := h.2.1
  unfold f_L_law_718 f_L_recall f_X10_recall f_X11_recall f_X11_recall_32
  rw [hg, grd_t, hp, c_exS hR hA]
  by_cases c : 0 ≤ p ∧ p ≤ M (b + 3) 5 - 1
  · obtain ⟨s, hs, rfl, hs5⟩ := s_of hA c
    rw [if_pos c, calp_r, ixN (by omega), c_canRecall hR hs, cal_s]
    by_cases c3 : M (b + 3) (59 + 8 * s + 5) = 2 ∨ M (b + 3) (59 + 8 * s + 5) = 3
    · obtain ⟨M1, a1, a2, a3⟩ := INV_act (F := F) h hb (by omega) hF
      obtain ⟨M2, b1, b2, b3⟩ := c_recall (F := F) a2 hA hs c3
      obtain ⟨M4, d1, d2, d0, dr, d3⟩ := a3 M2 b2
      have hW : WF (K + 99) (dRecall s (M (b + 3))) := WF_mono (WF_recall hA hs c3) (by omega) (by omega)
      have eM : pR M4 (b + 3) (M (b + 3)) = M4 := by rw [← d2]; exact pR_i
      have mb := m_recall (F := F) (r := b + 3) (M := M4) (A := M (b + 3)) hs (by omega) hA.2.1
      rw [eM] at mb
      have mc := m_canRecall (F := F) dr hs
      rw [if_pos c3] at mc
      have h6 : ∀ (B : Pg) (d : Int32), dHome B s d (59 + 8 * s + 6) = d := fun B d => by unfold dHome; exact pU_s
      have v2 : M2 (x + 3 + 17 + s) 6 = dWay (M (b + 3)) := by
        rw [RC_s b3 hs (by decide)]; unfold dRecall; exact h6 _ _
      unfold f_X10_require
      rw [if_pos c3, if_neg (show ¬ (1 : Int32) = 0 by decide), calp_r, a1, cal_s, b1, cal_s, calw_r, bnd_e, cal_s, grd_t]
      dsimp only
      rw [m_isShip, cal_s, if_pos (show 0 ≤ nI s ∧ nI s ≤ M2 (b + 3) 5 - 1 by rw [dr]; exact c), if_neg (show ¬ (1 : Int32) = 0 by decide), mc, cal_s, if_neg (show ¬ (1 : Int32) = 0 by decide), m_r0, cal_s, if_pos rfl]
      dsimp only
      rw [d1, cal_s, mb, cal_s]
      dsimp only
      exact ac_ok (by rw [pR_n (by omega)]; exact d0) (d3 _ b3 hW) (fun _ => by rw [wL_s, v2])
    · have mc := m_canRecall (F := F) (N := M) (r := b + 3) rfl hs
      rw [if_neg c3] at mc
      unfold f_X10_require
      rw [if_neg c3, if_pos rfl, calp_l, calw_l, if_neg (show ¬ (2 : Nat) = 3 by decide), if_pos rfl, cal_s, grd_t]
      dsimp only
      rw [m_isShip, cal_s, if_pos c, if_neg (show ¬ (1 : Int32) = 0 by decide), mc, cal_s, if_pos rfl, m_r1 (by decide), cal_s, if_neg (show ¬ (1 : Int32) = 0 by decide)]
      exact rd_ok (v := 0) h hb hK (fun q => absurd q (by decide))
  · rw [if_neg c, calp_l, calw_l, if_pos rfl, cal_s, grd_t]
    dsimp only
    rw [m_isShip, cal_s, if_neg c, if_pos rfl, m_r1 (by decide), cal_s, if_neg (show ¬ (1 : Int32) = 0 by decide)]
    exact rd_ok (v := 0) h hb hK (fun q => absurd q (by decide))
end
section
variable {F x a r b o K len : Nat} {M N : zMi} {X : zMl} {xs : Nat → Int32} {A : Pg}
theorem c_canExt {z : Nat} {d : Int32} (h : RC M a A) (hz : z < 9) (hz4 : nI z < A 4) (hd : 1 ≤ d) : f_X5_canProlong F a (a + 8 + z) d M = some (if 999 < A (23 + 4 * z + 2) + d then 0 else 1) := by
  unfold f_X5_canProlong
  rw [if_neg (show ¬ d < 1 by grind), RC_z h hz hz4 (by decide)]
  split <;> rfl
theorem m_canExt {z : Nat} {d : Int32} (hN : N r = A) (hz : z < 9) : f_X11_canExtend F r (nI z) d N = some (if 999 < A (23 + 4 * z + 2) + d then 0 else 1) := by
  unfold f_X11_canExtend
  rw [hN]
  simp (disch := omega) only [m_zoneAt, cal_s, ad2, inbN, ixN, grd_t]
  split <;> rfl
theorem case_extend {k : Int32 → zMi → zMl → Option Int32} {v4 : Int32} (h : INV K M x b) (hb : b = x + 386) (hK : K < 700000000) (hF : 1573 < F) (hg1 : inb (v4 + 1) len = true) (hg2 : inb (v4 + 2) len = true) : goes K x b k v4 (f_L_law_774 F len xs x b o k v4 M X) := by
  generalize hp : xs (ix (v4 + (1 : Int32))) = p
  generalize hu : xs (ix (v4 + (2 : Int32))) = u
  have hA := h.2.2.1
  have hR := h.2.1
  unfold f_L_law_774 f_L_extend f_X10_extend f_X11_extend f_X11_extend_49
  rw [hg1, hg2, grd_t, grd_t, hp, hu, c_exZ hR hA]
  by_cases c : 0 ≤ p ∧ p ≤ M (b + 3) 4 - 1
  · obtain ⟨z, hz, rfl, hz4⟩ := z_of hA c
    rw [if_pos c, calp_r, ixN (by omega), c_rr]
    by_cases c2 : 1 ≤ u ∧ u ≤ 99
    · rw [if_pos c2, calp_r, c_canExt hR hz hz4 c2.1, cal_s]
      by_cases c3 : 999 < M (b + 3) (23 + 4 * z + 2) + u
      · have mc := m_canExt (F := F) (d := u) (N := M) (r := b + 3) rfl hz
        rw [if_pos c3] at mc
        unfold f_X10_require
        rw [if_pos c3, if_pos rfl, calp_l, calw_l, if_neg (show ¬ (2 : Nat) = 3 by decide), if_neg (show ¬ (2 : Nat) = 1 by decide), if_pos rfl, cal_s, grd_t, grd_t]
        dsimp only
        rw [m_isZone, cal_s, if_pos c, if_neg (show ¬ (1 : Int32) = 0 by decide), m_in199, cal_s, if_pos c2, if_neg (show ¬ (1 : Int32) = 0 by decide), mc, cal_s, if_pos rfl, m_r1 (by decide), cal_s, if_neg (show ¬ (1 : Int32) = 0 by decide)]
        exact rd_ok (v := 0) h hb hK (fun q => absurd q (by decide))
      · obtain ⟨M1, a1, a2, a3⟩ := INV_act (F := F) h hb (by omega) hF
        obtain ⟨M2, b1, b2, b3⟩ := c_ext (F := F) (d := u) a2 hz hz4
        obtain ⟨M4, d1, d2, d0, dr, d3⟩ := a3 M2 b2
        obtain ⟨w0, w1, w2, w3⟩ := hA.2.2.2.2.2.2.1 z hz hz4
        have hW : WF (K + 99) (dExt z u (M (b + 3))) := WF_mono (WF_ext hA hz ⟨by grind, by grind⟩) (by omega) (by omega)
        have eM : pR M4 (b + 3) (M (b + 3)) = M4 := by rw [← d2]; exact pR_i
        have mb := m_ext (F := F) (r := b + 3) (M := M4) (A := M (b + 3)) (d := u) hz
        rw [eM] at mb
        have mc := m_canExt (F := F) (d := u) dr hz
        rw [if_neg c3] at mc
        have v2 : M2 (x + 3 + 8 + z) 2 = dExt z u (M (b + 3)) (23 + 4 * z + 2) := RC_z b3 hz (by unfold dExt; rw [pU_n (by omega), pU_n (by omega)]; exact hz4) (by decide)
        unfold f_X10_require
        rw [if_neg c3, if_neg (show ¬ (1 : Int32) = 0 by decide), calp_r, a1, cal_s, b1, cal_s, calw_r, bnd_e, cal_s, grd_t, grd_t]
        dsimp only
        rw [m_isZone, cal_s, if_pos (show 0 ≤ nI z ∧ nI z ≤ M2 (b + 3) 4 - 1 by rw [dr]; exact c), if_neg (show ¬ (1 : Int32) = 0 by decide), m_in199, cal_s, if_pos c2, if_neg (show ¬ (1 : Int32) = 0 by decide), mc, cal_s, if_neg (show ¬ (1 : Int32) = 0 by decide), m_r0, cal_s, if_pos rfl]
        dsimp only
        rw [d1, cal_s, mb, cal_s, m_zoneAt, cal_s, ad2, inbN (by omega) (by omega), grd_t, pR_s, ixN (by omega)]
        exact ac_ok (by rw [pR_n (by omega)]; exact d0) (d3 _ b3 hW) (fun _ => by rw [wL_s, v2])
    · rw [if_neg c2, calp_l, calw_l, if_neg (show ¬ (1 : Nat) = 3 by decide), if_pos rfl, cal_s, grd_t, grd_t]
      dsimp only
      rw [m_isZone, cal_s, if_pos c, if_neg (show ¬ (1 : Int32) = 0 by decide), m_in199, cal_s, if_neg c2, if_pos rfl, m_r1 (by decide), cal_s, if_neg (show ¬ (1 : Int32) = 0 by decide)]
      exact rd_ok (v := 0) h hb hK (fun q => absurd q (by decide))
  · rw [if_neg c, calp_l, calw_l, if_pos rfl, cal_s, grd_t, grd_t]
    dsimp only
    rw [m_isZone, cal_s, if_neg c, if_pos rfl, m_r1 (by decide), cal_s, if_neg (show ¬ (1 : Int32) = 0 by decide)]
    exact rd_ok (v := 0) h hb hK (fun q => absurd q (by decide))
theorem m_in0 {p y : Int32} : f_X11_in F p.toInt64 (0 : Int64) y.toInt64 M = some (if 0 ≤ p ∧ p ≤ y then 1 else 0) := m_in3 (y := 0) (z := y)
theorem m_in09 {p : Int32} : f_X11_in F p.toInt64 (0 : Int64) (9 : Int64) M = some (if 0 ≤ p ∧ p ≤ 9 then 1 else 0) := m_in3 (y := 0) (z := 9)
theorem case_setWaves {k : Int32 → zMi → zMl → Option Int32} {v4 : Int32} (h : INV K M x b) (hb : b = x + 386) (hK : K < 700000000) (hF : 1573 < F) (hg1 : inb (v4 + 1) len = true) (hg2 : inb (v4 + 2) len = true) : goes K x b k v4 (f_L_law_898 F len xs x b o k v4 M X) := by
  generalize hp : xs (ix (v4 + (1 : Int32))) = p
  generalize hu : xs (ix (v4 + (2 : Int32))) = u
  have hA := h.2.2.1
  have hR := h.2.1
  obtain ⟨w, hw0, hw1, hw⟩ := WF_6 hA
  unfold f_L_law_898 f_L_setWaves f_X10_setWaves f_X11_setWaves f_X11_setWaves_37
  rw [hg1, hg2, grd_t, grd_t, hp, hu, show M (x + 3 + 3) 0 = M (b + 3) 6 from hR.2.2.1.1, c_rr]
  by_cases c : 0 ≤ p ∧ p ≤ M (b + 3) 6 - 1
  · rw [if_pos c, calp_r, c_rr]
    have c' := c
    rw [hw, show (1 : Int32) = nI 1 from rfl, show nI w - nI 1 = nI (w - 1) from by
      obtain ⟨w', rfl⟩ : ∃ w', w = w' + 1 := ⟨w - 1, by omega⟩
      exact nI_pred w'] at c'
    obtain ⟨i, hi, rfl⟩ := exN (n := w - 1) c'.1 c'.2 (by omega)
    by_cases c2 : 0 ≤ u ∧ u ≤ 9
    · obtain ⟨M1, a1, a2, a3⟩ := INV_act (F := F) h hb (by omega) hF
      obtain ⟨M2, b1, b2, b3⟩ := c_change (F := F) (i := i) (w := w) (v := u) a2 (by omega) hw1 hw
      obtain ⟨M4, d1, d2, d0, dr, d3⟩ := a3 M2 b2
      have hW : WF (K + 99) (pU (M (b + 3)) (91 + i) u) := WF_mono (WF_wv hA) (by omega) (by omega)
      have eM : pR M4 (b + 3) (M (b + 3)) = M4 := by rw [← d2]; exact pR_i
      have ew : wI M4 (b + 3) (91 + i) u = pR M4 (b + 3) (pU (M (b + 3)) (91 + i) u) := by
        rw [← pR_w, eM]
      rw [if_pos c2, calp_r, a1, cal_s, b1, cal_s, calw_r, bnd_e, cal_s, grd_t, grd_t]
      dsimp only
      rw [m_in0, cal_s, if_pos (show 0 ≤ nI i ∧ nI i ≤ M2 (b + 3) 6 - 1 by rw [dr]; exact c), if_neg (show ¬ (1 : Int32) = 0 by decide), m_in09, cal_s, if_pos c2, if_neg (show ¬ (1 : Int32) = 0 by decide), m_r0, cal_s, if_pos rfl]
      dsimp only
      rw [d1, cal_s, a91N, inbN (by omega) (by omega), grd_t, bnd_e, grd_t, bnd_e, ixN (by omega), d2, ew]
      exact ac_ok (by rw [pR_n (by omega)]; exact d0) (d3 _ b3 hW) (fun _ => by rw [wL_s])
    · rw [if_neg c2, calp_l, calw_l, if_pos rfl, cal_s, grd_t, grd_t]
      dsimp only
      rw [m_in0, cal_s, if_pos c, if_neg (show ¬ (1 : Int32) = 0 by decide), m_in09, cal_s, if_neg c2, if_pos rfl, m_r1 (by decide), cal_s, if_neg (show ¬ (1 : Int32) = 0 by decide)]
      exact rd_ok (v := 0) h hb hK (fun q => absurd q (by decide))
  · rw [if_neg c, calp_l, calw_l, if_pos rfl, cal_s, grd_t, grd_t]
    dsimp only
    rw [m_in0, cal_s, if_neg c, if_pos rfl, m_r1 (by decide), cal_s, if_neg (show ¬ (1 : Int32) = 0 by decide)]
    exact rd_ok (v := 0) h hb hK (fun q => absurd q (by decide))
end
section
variable {F x a r b o K len : Nat} {M N : zMi} {X : zMl} {xs : Nat → Int32} {A : Pg}
/-- memories whose present state and history are another -/
theorem INV_st (h : INV K M x b) (hb : b = x + 386) (e1 : ∀ q, q ≠ b → q ≠ b + 2 → q ≠ b + 3 → q ≠ b + 4 → q ≠ x + 1 → (q < x + 3 ∨ x + 44 < q) → q ≠ x + 45 → N q = M q) (e2 : N b 2 = M b 2) (e3 : N (x + 1) 1 = M (x + 1) 1) (hR : RC N (x + 3) (N (b + 3))) (hW : WF K (N (b + 3))) (hH : ∃ p c, HR K N (x + 45) b p c) : INV K N x b := by
  subst hb
  obtain ⟨⟨n, t1, t2, t3, t4⟩, -, -, -, h5⟩ := h
  have r6 : N (x + 386 + 6) = M (x + 386 + 6) := e1 _ (by omega) (by omega) (by omega) (by omega) (by omega) (by omega) (by omega)
  have r7 : N (x + 386 + 7) = M (x + 386 + 7) := e1 _ (by omega) (by omega) (by omega) (by omega) (by omega) (by omega) (by omega)
  refine ⟨⟨n, t1, e3.trans t2, e2.trans t3, fun j hj => ?_⟩, hR, hW, hH, fun s hs => ?_⟩
  · rw [e1 (x + 2) (by omega) (by omega) (by omega) (by omega) (by omega) (by omega) (by omega), e1 (x + 386 + 1) (by omega) (by omega) (by omega) (by omega) (by omega) (by omega) (by omega)]
    exact t4 j hj
  · obtain ⟨s1, s2⟩ := h5 s hs
    rw [r7, r6, e1 (x + 342 + 22 * s) (by omega) (by omega) (by omega) (by omega) (by omega) (by omega) (by omega)]
    refine ⟨s1, ?_⟩
    rcases s2 with s2 | ⟨s2, s3, s4⟩
    · exact Or.inl s2
    · exact Or.inr ⟨s2, RC_fr s3 (fun q q1 q2 => e1 q (by omega) (by omega) (by omega) (by omega) (by omega) (by omega) (by omega)), s4⟩
theorem cpg_ag {p o0 q : Nat} {M : zMi} : ag (fun i => M p (o0 + i)) (cpg M p o0 q 0 q) := fun i hi => by
  have := cpg_i (M := M) (p := p) (o := o0) (q := q) (u := 0) hi
  rw [Nat.zero_add] at this
  exact this
theorem case_undo {k : Int32 → zMi → zMl → Option Int32} {v4 : Int32} (h : INV K M x b) (hb : b = x + 386) (hK : K < 700000000) (hF : 1573 < F) : goes K x b k v4 (f_L_law_1022 F len xs x b o k v4 M X) := by
  obtain ⟨p, c, hH⟩ := h.2.2.2.1
  have hH' := hH
  obtain ⟨p1, p2, p3, p4, p5, p6⟩ := hH'
  unfold f_L_law_1022 f_L_undo f_X10_undo f_X11_undo f_X11_undo_13 f_X10_require
  rw [p4]
  by_cases c0 : c = 0
  · subst c0
    rw [if_neg (show ¬ (0 : Int32) < nI 0 by decide), if_pos rfl, calp_l, calw_l, if_pos rfl, cal_s]
    dsimp only
    rw [if_pos (show M b 8 = 0 from p5), m_r1 (by decide), cal_s, if_neg (show ¬ (1 : Int32) = 0 by decide)]
    exact rd_ok (v := 0) h hb hK (fun q => absurd q (by decide))
  · obtain ⟨d, rfl⟩ : ∃ d, c = d + 1 := ⟨c - 1, by omega⟩
    obtain ⟨q1, q2⟩ := p6 d (by omega)
    obtain ⟨M2, a1, a2, a3, a4, a5⟩ := c_takeBack (F := F) (h := x + 45) (p := x + 3) (by omega) p1 (by omega) p2 p3 p4 (by omega) q1
    rw [Nat.add_sub_cancel] at a1 a5
    have gb : M2 b = M b := a2 b (by omega) (by omega)
    have g5 : M2 (b + 5) = M (b + 5) := a2 _ (by omega) (by omega)
    have e8 : wI M2 b 0 0 b 8 = nI (d + 1) := by
      rw [show wI M2 b 0 0 b 8 = M2 b 8 from by simp [wI], gb]; exact p5
    rw [if_pos (show (0 : Int32) < nI (d + 1) from nI_lt (a := 0) (by omega) (by omega)), if_neg (show ¬ (1 : Int32) = 0 by decide), calp_r, a1, cal_s, calw_r, bnd_e, cal_s]
    dsimp only
    rw [if_neg (show ¬ M2 b 8 = 0 by rw [gb, p5]; exact nI_ne0 (by omega) (by omega)), m_r0, cal_s, if_pos rfl]
    dsimp only
    rw [e8, nI_pred, bnd_e]
    generalize hN0 : wI (wI M2 b 0 0) b 8 (nI d) = N0
    have n8 : N0 b 8 = nI d := by rw [← hN0]; simp [wI]
    have nb : ∀ j, j ≠ 0 → j ≠ 8 → N0 b j = M b j := fun j j0 j8 => by rw [← hN0, ← gb]; simp [wI, j0, j8]
    have n0 : N0 b 0 = 0 := by rw [← hN0]; simp [wI]
    have nq : ∀ q, q ≠ b → N0 q = M2 q := fun q qb => by rw [← hN0, wI_ne qb, wI_ne qb]
    have mc := m_copy (F := F) (M := N0) (p := b + 5) (np := 1694) (o := 121 * d) (q := b + 3) (nq := 121) (u := 0) (by omega) (by omega) (by omega) (by omega) (by omega) (by omega)
    rw [n8, show (121 : Int32) * nI d = nI (121 * d) from nI_mul 121 d, show f_X11_copyPage F (b + 5) 1694 (nI (121 * d)) (b + 3) 121 (0 : Int32) N0 = f_X11_copyPage F (b + 5) 1694 (nI (121 * d)) (b + 3) 121 (nI 0) N0 from rfl, mc, cal_s, cpg_o (by omega : b ≠ b + 3), n8]
    have hg : ag (fun i => M (b + 5) (121 * d + i)) (cpg N0 (b + 5) (121 * d) (b + 3) 0 (b + 3)) := by
      have := cpg_ag (p := b + 5) (o0 := 121 * d) (q := b + 3) (M := N0)
      rw [nq _ (by omega), g5] at this
      exact this
    have cq' : ∀ q, q ≠ b → q ≠ b + 3 → cpg N0 (b + 5) (121 * d) (b + 3) 0 q = M2 q := fun q qb q3 => by rw [cpg_o q3, nq q qb]
    refine ac_ok (by rw [cpg_o (by omega : b ≠ b + 3)]; exact n0) (INV_mono (INV_st h hb (fun q y0 y2 y3 y4 y5 y6 y7 => ?_) ?_ ?_ ?_ ?_ ⟨p, d, ?_⟩) (by omega) (by omega)) (fun _ => by rw [wL_s])
    · rw [cq' q y0 y3]; exact a2 q y7 (by omega)
    · rw [cpg_o (by omega)]; exact nb 2 (by decide) (by decide)
    · rw [cq' _ (by omega) (by omega), a2 _ (by omega) (by omega)]
    · exact RC_ag hg (RC_fr a3 (fun q y1 y2 => cq' q (by omega) (by omega)))
    · exact WF_ag hg q2
    · refine ⟨p1, by omega, ?_, ?_, ?_, fun j hj => ?_⟩
      · rw [cq' _ (by omega) (by omega)]; exact a4
      · rw [cq' _ (by omega) (by omega)]; exact a5
      · rw [cpg_o (by omega)]; exact n8
      · rw [cq' (b + 5) (by omega) (by omega), g5]
        obtain ⟨y1, y2⟩ := p6 j (by omega)
        have hm : (p + j) % 14 < 14 := Nat.mod_lt _ (by decide)
        exact ⟨RC_fr y1 (fun q z1 z2 => by rw [cq' q (by omega) (by omega)]; exact a2 q (by omega) (by omega)), y2⟩
end
section
variable {F x a r b o K len : Nat} {M N : zMi} {X : zMl} {xs : Nat → Int32} {A : Pg}
theorem in2 {q : Int32} (c : 0 ≤ q ∧ q ≤ 1) : ∃ s, s < 2 ∧ q = nI s := by
  obtain ⟨n, hn, rfl⟩ := exN (n := 1) c.1 c.2 (by decide)
  exact ⟨n, by omega, rfl⟩
theorem c_slot {p : Int32} : f_X10_existingSlot F x p M = some (if 0 ≤ p ∧ p ≤ 1 then .inr (x + 342 + 22 * ix p) else .inl 3) := by
  unfold f_X10_existingSlot
  by_cases c : 0 ≤ p ∧ p ≤ 1
  · obtain ⟨s, hs, rfl⟩ := in2 c
    rw [if_pos c, if_neg (nI_pos (by omega)), if_pos (show nI s < 2 from nI_lt (b := 2) hs (by decide)), inbN hs (by decide), grd_t, bnd_e]
  · rw [if_neg c]
    by_cases c1 : p < 0
    · rw [if_pos c1]
    · rw [if_neg c1, if_neg (fun y => c (by grind))]
theorem m_in01 {p : Int32} : f_X11_in F p.toInt64 (0 : Int64) (1 : Int64) M = some (if 0 ≤ p ∧ p ≤ 1 then 1 else 0) := m_in3 (y := 0) (z := 1)
theorem case_save {k : Int32 → zMi → zMl → Option Int32} {v4 : Int32} (h : INV K M x b) (hb : b = x + 386) (hK : K < 700000000) (hF : 1573 < F) (hg : inb (v4 + 1) len = true) : goes K x b k v4 (f_L_law_1663 F len xs x b o k v4 M X) := by
  generalize hp : xs (ix (v4 + (1 : Int32))) = p
  unfold f_L_law_1663 f_L_save f_X10_save f_X11_save f_X11_save_16
  rw [hg, grd_t, hp, c_slot]
  by_cases c : 0 ≤ p ∧ p ≤ 1
  · obtain ⟨s, hs, rfl⟩ := in2 c
    obtain ⟨M1, a1, a2, a3⟩ := c_copy (F := F) (a := x + 343 + 22 * s) (b := x + 3) (by omega) (by omega) h.2.1
    have hst := h
    obtain ⟨⟨n, t1, t2, t3, t4⟩, i2, i3, ⟨o1, c1, i4⟩, i5⟩ := hst
    generalize hM2 : wI M1 (x + 342 + 22 * s) 1 1 = M2
    have g2 : ∀ q, q ≠ x + 342 + 22 * s → (q < x + 343 + 22 * s ∨ x + 343 + 22 * s + 20 < q) → M2 q = M q := fun q q1 q2 => by rw [← hM2, wI_ne q1]; exact a2 q q2
    have g3 : ∀ q, x + 343 + 22 * s ≤ q → q ≤ x + 343 + 22 * s + 20 → M2 q = M1 q := fun q q1 q2 => by rw [← hM2, wI_ne (by omega)]
    generalize hN0 : wI (wI M2 b 0 0) (b + 7) s 1 = N0
    have nb : ∀ j, j ≠ 0 → N0 b j = M b j := fun j j0 => by rw [← hN0, wI_ne (by omega), ← g2 b (by omega) (by omega)]; simp [wI, j0]
    have n0 : N0 b 0 = 0 := by rw [← hN0, wI_ne (by omega)]; simp [wI]
    have n7 : N0 (b + 7) s = 1 := by rw [← hN0]; simp [wI]
    have n7' : ∀ j, j ≠ s → N0 (b + 7) j = M (b + 7) j := fun j js => by rw [← hN0, ← g2 (b + 7) (by omega) (by omega), ← (wI_ne (by omega) : wI M2 b 0 0 (b + 7) = M2 (b + 7))]; simp [wI, js]
    have nq : ∀ q, q ≠ b → q ≠ b + 7 → N0 q = M2 q := fun q q1 q2 => by rw [← hN0, wI_ne q2, wI_ne q1]
    have mc := m_copy (F := F) (M := N0) (p := b + 3) (np := 121) (o := 0) (q := b + 6) (nq := 242) (u := 121 * s) (by omega) (by omega) (by omega) (by omega) (by omega) (by omega)
    have e3 : N0 (b + 3) = M (b + 3) := by rw [nq _ (by omega) (by omega), g2 _ (by omega) (by omega)]
    have cqq : ∀ q, q ≠ b + 6 → cpg N0 (b + 3) 0 (b + 6) (121 * s) q = N0 q := fun q q6 => cpg_o q6
    rw [if_pos c, calp_r, ixN (by omega), show x + 342 + 22 * s + 1 = x + 343 + 22 * s from by omega, a1, cal_s, hM2, bnd_e, calw_r, bnd_e, cal_s, grd_t]
    dsimp only
    rw [m_in01, cal_s, if_pos c, if_neg (show ¬ (1 : Int32) = 0 by decide), m_r0, cal_s, if_pos rfl]
    dsimp only
    rw [inbN hs (by decide), grd_t, show znar .boolean (1 : Int32) = 1 from rfl, hN0, bnd_e, show (121 : Int32) * nI s = nI (121 * s) from nI_mul 121 s, show f_X11_copyPage F (b + 3) 121 (0 : Int32) (b + 6) 242 (nI (121 * s)) N0 = f_X11_copyPage F (b + 3) 121 (nI 0) (b + 6) 242 (nI (121 * s)) N0 from rfl, mc, cal_s, cqq _ (by omega), e3]
    have v2 : M2 (x + 3) 8 = M (b + 3) 3 := by rw [g2 _ (by omega) (by omega)]; exact i2.1.2.2.2.1
    refine ac_ok (by rw [cqq _ (by omega)]; exact n0) (INV_mono ⟨⟨n, t1, ?_, ?_, fun j hj => ?_⟩, ?_, ?_, ⟨o1, c1, ?_⟩, fun s' hs' => ?_⟩ (show K ≤ K + 99 by omega) (by omega)) (fun _ => by rw [wL_s, v2])
    · rw [cqq _ (by omega), nq _ (by omega) (by omega), g2 _ (by omega) (by omega)]; exact t2
    · rw [cqq _ (by omega), nb 2 (by decide)]; exact t3
    · rw [cqq _ (by omega), cqq _ (by omega), nq _ (by omega) (by omega), nq _ (by omega) (by omega), g2 _ (by omega) (by omega), g2 _ (by omega) (by omega)]; exact t4 j hj
    · rw [cqq _ (by omega), e3]
      exact RC_fr i2 (fun q q1 q2 => by rw [cqq _ (by omega), nq _ (by omega) (by omega), g2 _ (by omega) (by omega)])
    · rw [cqq _ (by omega), e3]; exact i3
    · exact HR_fr i4 (fun j _ => by rw [cqq _ (by omega), nq _ (by omega) (by omega), g2 _ (by omega) (by omega)]) (by rw [cqq _ (by omega), nb 8 (by decide)]) (by rw [cqq _ (by omega), nq _ (by omega) (by omega), g2 _ (by omega) (by omega)]) (fun q q1 q2 => by rw [cqq _ (by omega), nq _ (by omega) (by omega), g2 _ (by omega) (by omega)])
    · rw [cqq (b + 7) (by omega), cqq (x + 342 + 22 * s') (by omega), nq (x + 342 + 22 * s') (by omega) (by omega)]
      by_cases es : s' = s
      · subst es
        have e1 : M2 (x + 342 + 22 * s') 1 = 1 := by rw [← hM2]; simp [wI]
        rw [n7, e1]
        refine ⟨rfl, Or.inr ⟨rfl, ?_, ?_⟩⟩
        · refine RC_ag (A := M (b + 3)) (fun i hi => ?_) (RC_fr a3 (fun q q1 q2 => by rw [cqq _ (by omega), nq _ (by omega) (by omega), g3 _ (by omega) (by omega)]))
          rw [cpg_i hi, Nat.zero_add, e3]
        · refine WF_ag (A := M (b + 3)) (fun i hi => ?_) i3
          rw [cpg_i hi, Nat.zero_add, e3]
      · obtain ⟨s1, s2⟩ := i5 s' hs'
        rw [n7' s' es, g2 _ (by omega) (by omega)]
        refine ⟨s1, ?_⟩
        have e6 : ag (fun i => M (b + 6) (121 * s' + i)) (fun i => cpg N0 (b + 3) 0 (b + 6) (121 * s) (b + 6) (121 * s' + i)) := fun i hi => by
          show cpg N0 (b + 3) 0 (b + 6) (121 * s) (b + 6) (121 * s' + i) = M (b + 6) (121 * s' + i)
          rw [cpg_n (by omega), nq _ (by omega) (by omega), g2 _ (by omega) (by omega)]
        rcases s2 with s2 | ⟨s2, s3, s4⟩
        · exact Or.inl s2
        · exact Or.inr ⟨s2, RC_ag e6 (RC_fr s3 (fun q q1 q2 => by rw [cqq _ (by omega), nq _ (by omega) (by omega), g2 _ (by omega) (by omega)])), WF_ag e6 s4⟩
  · rw [if_neg c, calp_l, calw_l, if_pos rfl, cal_s, grd_t]
    dsimp only
    rw [m_in01, cal_s, if_neg c, if_pos rfl, m_r1 (by decide), cal_s, if_neg (show ¬ (1 : Int32) = 0 by decide)]
    exact rd_ok (v := 0) h hb hK (fun q => absurd q (by decide))
theorem case_restore {k : Int32 → zMi → zMl → Option Int32} {v4 : Int32} (h : INV K M x b) (hb : b = x + 386) (hK : K < 700000000) (hF : 1573 < F) (hg : inb (v4 + 1) len = true) : goes K x b k v4 (f_L_law_1719 F len xs x b o k v4 M X) := by
  generalize hp : xs (ix (v4 + (1 : Int32))) = p
  unfold f_L_law_1719 f_L_restore f_X10_restore
  rw [hg, grd_t, hp, c_slot]
  by_cases c : 0 ≤ p ∧ p ≤ 1
  · obtain ⟨s, hs, rfl⟩ := in2 c
    obtain ⟨s1, s2⟩ := h.2.2.2.2 s hs
    rw [if_pos c, calp_r, ixN (by omega), s1]
    rcases s2 with s2 | ⟨s2, s3, s4⟩
    · rw [s2]
      unfold f_X10_require f_X11_restore f_X11_restore_29
      rw [if_pos rfl, calp_l, calw_l, if_neg (show ¬ (2 : Nat) = 3 by decide), if_pos rfl, cal_s, grd_t]
      dsimp only
      rw [m_in01, cal_s, if_pos c, if_neg (show ¬ (1 : Int32) = 0 by decide), inbN hs (by decide), grd_t, ixN (by omega), if_pos (show M (b + 7) s = 0 from s2), m_r1 (by decide), cal_s, if_neg (show ¬ (1 : Int32) = 0 by decide)]
      exact rd_ok (v := 0) h hb hK (fun q => absurd q (by decide))
    · obtain ⟨M1, a1, a2, a3⟩ := c_copy (F := F) (a := x + 3) (b := x + 343 + 22 * s) (by omega) (by omega) s3
      generalize hM2 : wI (wI M1 (x + 45) 1 0) (x + 45) 2 0 = M2
      have g2 : ∀ q, q ≠ x + 45 → (q < x + 3 ∨ x + 23 < q) → M2 q = M q := fun q q1 q2 => by rw [← hM2, wI_ne q1, wI_ne q1]; exact a2 q (by omega)
      have g3 : ∀ q, x + 3 ≤ q → q ≤ x + 23 → M2 q = M1 q := fun q q1 q2 => by rw [← hM2, wI_ne (by omega), wI_ne (by omega)]
      have m1 : M2 (x + 45) 1 = nI 0 := by rw [← hM2]; simp [wI]; rfl
      have m2 : M2 (x + 45) 2 = nI 0 := by rw [← hM2]; simp [wI]; rfl
      have mc := m_copy (F := F) (M := wI M2 b 0 0) (p := b + 6) (np := 242) (o := 121 * s) (q := b + 3) (nq := 121) (u := 0) (by omega) (by omega) (by omega) (by omega) (by omega) (by omega)
      generalize hN0 : wI (cpg (wI M2 b 0 0) (b + 6) (121 * s) (b + 3) 0) b 8 0 = N0
      have nq : ∀ q, q ≠ b → q ≠ b + 3 → N0 q = M2 q := fun q q1 q2 => by rw [← hN0, wI_ne q1, cpg_o q2, wI_ne q1]
      have nb : ∀ j, j ≠ 0 → j ≠ 8 → N0 b j = M b j := fun j j0 j8 => by
        rw [← hN0, ← g2 b (by omega) (by omega)]
        have : cpg (wI M2 b 0 0) (b + 6) (121 * s) (b + 3) 0 b = wI M2 b 0 0 b := cpg_o (by omega)
        unfold wI at this ⊢
        simp [this, j0, j8]
      have n0 : N0 b 0 = 0 := by
        rw [← hN0]
        have : cpg (wI M2 b 0 0) (b + 6) (121 * s) (b + 3) 0 b = wI M2 b 0 0 b := cpg_o (by omega)
        unfold wI at this ⊢
        simp [this]
      have n8 : N0 b 8 = nI 0 := by rw [← hN0]; simp [wI]; rfl
      have hag : ag (fun i => M (b + 6) (121 * s + i)) (N0 (b + 3)) := by
        have := cpg_ag (p := b + 6) (o0 := 121 * s) (q := b + 3) (M := wI M2 b 0 0)
        rw [wI_ne (by omega : b + 6 ≠ b), g2 _ (by omega) (by omega)] at this
        rw [← hN0, wI_ne (by omega)]
        exact this
      have hR : RC N0 (x + 3) (N0 (b + 3)) := RC_ag hag (RC_fr a3 (fun q q1 q2 => by rw [nq _ (by omega) (by omega), g3 _ (by omega) (by omega)]))
      have v2 : M2 (x + 3) 8 = N0 (b + 3) 3 := by
        have : N0 (x + 3) 8 = N0 (b + 3) 3 := hR.1.2.2.2.1
        rw [← this, nq _ (by omega) (by omega)]
      rw [s2]
      unfold f_X0_clear f_X10_require f_X11_restore f_X11_restore_29
      rw [if_neg (show ¬ (1 : Int32) = 0 by decide), calp_r, show x + 342 + 22 * s + 1 = x + 343 + 22 * s from by omega, a1, cal_s, bnd_e, bnd_e, hM2, cal_s, calw_r, bnd_e, cal_s, grd_t]
      dsimp only
      rw [m_in01, cal_s, if_pos c, if_neg (show ¬ (1 : Int32) = 0 by decide), inbN hs (by decide), grd_t, ixN (by omega), if_neg (show ¬ M2 (b + 7) s = 0 by rw [g2 (b + 7) (by omega) (by omega), s2]; decide), m_r0, cal_s, if_pos rfl]
      dsimp only
      rw [show (121 : Int32) * nI s = nI (121 * s) from nI_mul 121 s, show f_X11_copyPage F (b + 6) 242 (nI (121 * s)) (b + 3) 121 (0 : Int32) (wI M2 b 0 0) = f_X11_copyPage F (b + 6) 242 (nI (121 * s)) (b + 3) 121 (nI 0) (wI M2 b 0 0) from rfl, mc, cal_s, hN0, bnd_e]
      refine ac_ok n0 (INV_mono (INV_st h hb (fun q y0 y2 y3 y4 y5 y6 y7 => ?_) (nb 2 (by decide) (by decide)) ?_ hR (WF_ag hag s4) ⟨0, 0, by decide, by decide, ?_, ?_, n8, fun j hj => by omega⟩) (by omega) (by omega)) (fun _ => by rw [wL_s, v2])
      · rw [nq q y0 y3]; exact g2 q y7 (by omega)
      · rw [nq _ (by omega) (by omega), g2 _ (by omega) (by omega)]
      · rw [nq _ (by omega) (by omega)]; exact m1
      · rw [nq _ (by omega) (by omega)]; exact m2
  · unfold f_X11_restore f_X11_restore_29
    rw [if_neg c, calp_l, calw_l, if_pos rfl, cal_s, grd_t]
    dsimp only
    rw [m_in01, cal_s, if_neg c, if_pos rfl, m_r1 (by decide), cal_s, if_neg (show ¬ (1 : Int32) = 0 by decide)]
    exact rd_ok (v := 0) h hb hK (fun q => absurd q (by decide))
end
section
variable {F x a r b o K len : Nat} {M N : zMi} {X : zMl} {xs : Nat → Int32} {A : Pg}
theorem case_ahead {k : Int32 → zMi → zMl → Option Int32} {v4 : Int32} (h : INV K M x b) (hb : b = x + 386) (hK : K < 700000000) (hF : 1573 < F) (hg1 : inb (v4 + 1) len = true) (hg2 : inb (v4 + 2) len = true) : goes K x b k v4 (f_L_law_1270 F len xs x b o k v4 M X) := by
  generalize hp : xs (ix (v4 + (1 : Int32))) = p
  generalize hw : xs (ix (v4 + (2 : Int32))) = w
  unfold f_L_law_1270 f_L_ahead f_X10_ahead f_X11_ahead f_X11_ahead_30
  rw [hg1, hg2, grd_t, grd_t, hp, hw, c_rr]
  by_cases c : 0 ≤ p ∧ p ≤ 99
  · obtain ⟨d, hd, rfl⟩ := exN (n := 99) (x := p) c.1 c.2 (by decide)
    rw [if_pos c, calp_r, c_rr]
    by_cases c2 : 0 ≤ w ∧ w ≤ 4
    · obtain ⟨M1, T, a1, a2, a3, a4, a5, a6⟩ := INV_tr (F := F) h hb (by omega) (by omega)
      obtain ⟨M2, b1, b2, b3⟩ := c_days (F := F) (n := d) (by omega) a3 a4 (by omega) (by omega) (by omega)
      obtain ⟨d1, d2, d3⟩ := a6 M2 b2
      have mb := m_days (F := F) (r := b + 4) (M := wI M2 b 0 0) (A := T) (n := d) (by omega) a4 (by omega) (by omega) (by omega)
      generalize hN : pR (wI M2 b 0 0) (b + 4) (dDays d T) = N at mb
      have n4 : N (b + 4) = dDays d T := by rw [← hN]; exact pR_s
      have n3 : N (b + 3) = M (b + 3) := by rw [← hN, pR_n (by omega), wI_ne (by omega)]; exact d2
      have n0 : N b 0 = 0 := by rw [← hN, pR_n (by omega)]; simp [wI]
      have g10 : M2 (x + 3 + 7) = M (x + 3 + 7) := by rw [b2 _ (by omega), a2 _ (by omega)]
      obtain ⟨l0, l1, l2, l3, l4, l5, l6⟩ := h.2.1.2.1
      obtain ⟨y0, y1, y2, y3, y4, y5, y6⟩ := b3.2.1
      obtain ⟨u0, u1, u2, u3, u4, u5, u6⟩ := b3.1
      have t17 : T 17 = M (b + 3) 17 := a5 17 (by decide)
      obtain ⟨v, e1, e2⟩ : ∃ v, (if w = 0 then some (.inr ((M2 ((x + 24) + 7) 1) - (M2 ((x + 3) + 7) 1)), M2) else (if w = 1 then some (.inr (M2 (x + 24) 9), M2) else (if w = 2 then some (.inr ((M2 ((x + 24) + 7) 3) - (M2 ((x + 3) + 7) 3)), M2) else (if w = 3 then some (.inr ((M2 ((x + 24) + 7) 4) - (M2 ((x + 3) + 7) 4)), M2) else some (.inr (M2 (x + 24) 11), M2))))) = (some (.inr v, M2) : Option ((Nat ⊕ Int32) × zMi)) ∧ (if w = (0 : Int32) then some (dDays d T 17 - T 17, N) else (if w = (1 : Int32) then some ((N (b + 4) 7), N) else (if w = (2 : Int32) then some (((N (b + 4) 19) - (N (b + 3) 19)), N) else (if w = (3 : Int32) then some (((N (b + 4) 20) - (N (b + 3) 20)), N) else some ((N (b + 4) 9), N))))) = some (v, N) := by
        rw [g10, n4, n3, t17, y1, y3, y4, u4, u6, l1, l3, l4]
        rcases in5 c2 with rfl | rfl | rfl | rfl | rfl <;> simp (decide := true) only [↓reduceIte] <;> exact ⟨_, rfl, rfl⟩
      rw [if_pos c2, calp_r, a1, cal_s, b1, cal_s, e1, calw_r, bnd_e, cal_s, grd_t, grd_t]
      dsimp only
      rw [m_in099, cal_s, if_pos c, if_neg (show ¬ (1 : Int32) = 0 by decide), m_in04, cal_s, if_pos c2, if_neg (show ¬ (1 : Int32) = 0 by decide), m_r0, cal_s, if_pos rfl]
      dsimp only
      rw [d1, cal_s, mb, cal_s]
      dsimp only
      rw [e2]
      exact ac_ok n0 (by rw [← hN]; exact d3 _) (fun _ => wL_s)
    · rw [if_neg c2, calp_l, calw_l, if_pos rfl, cal_s, grd_t, grd_t]
      dsimp only
      rw [m_in099, cal_s, if_pos c, if_neg (show ¬ (1 : Int32) = 0 by decide), m_in04, cal_s, if_neg c2, if_pos rfl, m_r1 (by decide), cal_s, if_neg (show ¬ (1 : Int32) = 0 by decide)]
      exact rd_ok (v := 0) h hb hK (fun q => absurd q (by decide))
  · rw [if_neg c, calp_l, calw_l, if_pos rfl, cal_s, grd_t, grd_t]
    dsimp only
    rw [m_in099, cal_s, if_neg c, if_pos rfl, m_r1 (by decide), cal_s, if_neg (show ¬ (1 : Int32) = 0 by decide)]
    exact rd_ok (v := 0) h hb hK (fun q => absurd q (by decide))
end
