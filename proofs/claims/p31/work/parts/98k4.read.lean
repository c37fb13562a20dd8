section
variable {F x a K : Nat} {M N : zMi} {A : Pg} {R : Rs}
noncomputable def aAb (A : Pg) (p : Int32) : Int32 := if p = 0 then A 4 else if p = 1 then A 5 else if p = 2 then A 0 else if p = 3 then A 1 else if p = 4 then A 2 else if p = 5 then A 3 else if p = 6 then A 7 else if p = 7 then A 8 else if p = 8 then dFi A else if p = 9 then A 9 else if p = 10 then A 10 else if p = 11 then A 11 else if p = 12 then A 12 else if p = 13 then dFree A else -1002
noncomputable def dLeft (A : Pg) (p : Int32) : Int32 := if p < A 7 then 0 else if p = A 7 then A (23 + 4 * ix p) - A 8 else A (23 + 4 * ix p)
noncomputable def aZn (A : Pg) (p q : Int32) : Int32 := if 0 ≤ p ∧ p ≤ A 4 - 1 then (if q = 0 then A (23 + 4 * ix p) else if q = 1 then A (23 + 4 * ix p + 1) else if q = 2 then A (23 + 4 * ix p + 2) else if q = 3 then A (23 + 4 * ix p + 3) else if q = 4 then dLeft A p else -1002) else -1001
noncomputable def aSh (A : Pg) (p q : Int32) : Int32 := if 0 ≤ p ∧ p ≤ A 5 - 1 then (if q = 0 then A (59 + 8 * ix p) else if q = 1 then A (59 + 8 * ix p + 1) else if q = 2 then A (59 + 8 * ix p + 2) else if q = 3 then A (59 + 8 * ix p + 3) else if q = 4 then A (59 + 8 * ix p + 4) else if q = 5 then A (59 + 8 * ix p + 5) else if q = 6 then A (59 + 8 * ix p + 6) else if q = 7 then A (59 + 8 * ix p + 7) else -1002) else -1001
noncomputable def aWv (A : Pg) (p : Int32) : Int32 := if 0 ≤ p ∧ p ≤ 9999 then dWav A p else -1002
noncomputable def aAc (A : Pg) (p : Int32) : Int32 := if p = 0 then A 16 else if p = 1 then A 17 else if p = 2 then A 18 else if p = 3 then dAb A else if p = 4 then A 19 else if p = 5 then A 20 else if p = 6 then A 21 else if p = 7 then A 22 else -1002
noncomputable def aNd (A : Pg) (p u : Int32) : Int32 := if 0 ≤ p ∧ p ≤ A 4 - 1 then (if 0 ≤ u ∧ u ≤ 99 then dNeed A (ix p) u else -1002) else -1001
noncomputable def aRc (A : Pg) (p q : Int32) : Int32 := if 0 ≤ p ∧ p ≤ A 5 - 1 then (if 0 ≤ q ∧ q ≤ A 4 - 1 then dMost A (ix p) (ix q) (A (23 + 4 * ix q)) else -1001) else -1001
theorem t_ab (h : Ob K M x A R) (hF : 101 ≤ F) (p : Int32) : f_L_tryAbout F x p M = some (aAb A p) := by
  have hR := h.2.1
  have hA := h.2.2.1.1
  obtain ⟨⟨r1, r2, r3, r4, r5, r6, r7⟩, -, -, ⟨t1, t2, t3, t4, -, -, -, -⟩, -, -⟩ := h.2.1
  have cf := c_front (F := F) hR (by omega)
  have ct := c_free (F := F) hR hA.2.1 (by omega)
  have cs := c_stage (F := F) hR hA
  unfold f_L_tryAbout aAb
  by_cases c : 0 ≤ p ∧ p ≤ 13
  · have e : p = 0 ∨ p = 1 ∨ p = 2 ∨ p = 3 ∨ p = 4 ∨ p = 5 ∨ p = 6 ∨ p = 7 ∨ p = 8 ∨ p = 9 ∨ p = 10 ∨ p = 11 ∨ p = 12 ∨ p = 13 := by
      obtain ⟨n, hn, rfl⟩ := exN (n := 13) c.1 c.2 (by decide)
      have : n = 0 ∨ n = 1 ∨ n = 2 ∨ n = 3 ∨ n = 4 ∨ n = 5 ∨ n = 6 ∨ n = 7 ∨ n = 8 ∨ n = 9 ∨ n = 10 ∨ n = 11 ∨ n = 12 ∨ n = 13 := by omega
      rcases this with rfl | rfl | rfl | rfl | rfl | rfl | rfl | rfl | rfl | rfl | rfl | rfl | rfl | rfl <;> decide
    rcases e with rfl | rfl | rfl | rfl | rfl | rfl | rfl | rfl | rfl | rfl | rfl | rfl | rfl | rfl <;> unfold f_X10_about <;> simp (decide := true) only [↓reduceIte, cal_s, calp_r, cf, ct, cs, r1, r2, r3, r4, r5, r6, r7, t1, t2, t3, t4]
  · have hn : ∀ j : Int32, (0 ≤ j ∧ j ≤ 13) → ¬ p = j := fun j hj e => c (by rw [e]; exact hj)
    rw [about_out c, calp_l, if_pos rfl, if_neg (hn 0 (by decide)), if_neg (hn 1 (by decide)), if_neg (hn 2 (by decide)), if_neg (hn 3 (by decide)), if_neg (hn 4 (by decide)), if_neg (hn 5 (by decide)), if_neg (hn 6 (by decide)), if_neg (hn 7 (by decide)), if_neg (hn 8 (by decide)), if_neg (hn 9 (by decide)), if_neg (hn 10 (by decide)), if_neg (hn 11 (by decide)), if_neg (hn 12 (by decide)), if_neg (hn 13 (by decide))]
theorem t_zn (h : Ob K M x A R) (p q : Int32) : f_L_tryZone F x p q M = some (aZn A p q) := by
  have hR := h.2.1
  have hA := h.2.2.1.1
  unfold f_L_tryZone f_X10_zone aZn
  rw [c_exZ hR hA]
  by_cases c : 0 ≤ p ∧ p ≤ A 4 - 1
  · obtain ⟨z, hz, rfl, hz4⟩ := z_of hA c
    have r5 : M (x + 3) 9 = A 7 := hR.1.2.2.2.2.1
    have r6 : M (x + 3) 10 = A 8 := hR.1.2.2.2.2.2.1
    have z0 : M (x + 3 + 8 + z) 0 = A (23 + 4 * z) := RC_z hR hz hz4 (k := 0) (by decide)
    have z1 : M (x + 3 + 8 + z) 1 = A (23 + 4 * z + 1) := RC_z hR hz hz4 (by decide)
    have z2 : M (x + 3 + 8 + z) 2 = A (23 + 4 * z + 2) := RC_z hR hz hz4 (by decide)
    have z3 : M (x + 3 + 8 + z) 3 = A (23 + 4 * z + 3) := RC_z hR hz hz4 (by decide)
    rw [if_pos c, if_pos c, calp_r, ixN (by omega)]
    by_cases d : 0 ≤ q ∧ q ≤ 4
    · rcases in5 d with rfl | rfl | rfl | rfl | rfl
      · simp (decide := true) only [↓reduceIte, calp_r, z0]
      · simp (decide := true) only [↓reduceIte, calp_r, z1]
      · simp (decide := true) only [↓reduceIte, calp_r, z2]
      · simp (decide := true) only [↓reduceIte, calp_r, z3]
      · unfold f_X5_leftIn dLeft
        rw [r5, r6, z0, ixN (by omega)]
        simp (decide := true) only [↓reduceIte]
        by_cases k1 : nI z < A 7
        · rw [if_pos k1, if_pos k1, cal_s]; rfl
        · rw [if_neg k1, if_neg k1]
          by_cases k2 : nI z = A 7
          · rw [if_pos k2, if_pos k2, cal_s]; rfl
          · rw [if_neg k2, if_neg k2, cal_s]; rfl
    · have hn : ∀ j : Int32, (0 ≤ j ∧ j ≤ 4) → ¬ q = j := fun j hj e => d (by rw [e]; exact hj)
      rw [if_neg (hn 0 (by decide)), if_neg (hn 1 (by decide)), if_neg (hn 2 (by decide)), if_neg (hn 3 (by decide)), if_neg (hn 4 (by decide)), if_neg (hn 0 (by decide)), if_neg (hn 1 (by decide)), if_neg (hn 2 (by decide)), if_neg (hn 3 (by decide)), if_neg (hn 4 (by decide)), calp_l, if_neg (show ¬ (1 : Nat) = 3 by decide), if_pos rfl]
  · rw [if_neg c, if_neg c, calp_l, calp_l, if_pos rfl]
theorem t_sh (h : Ob K M x A R) (p q : Int32) : f_L_tryShip F x p q M = some (aSh A p q) := by
  have hR := h.2.1
  have hA := h.2.2.1.1
  unfold f_L_tryShip f_X10_ship aSh
  rw [c_exS hR hA]
  by_cases c : 0 ≤ p ∧ p ≤ A 5 - 1
  · obtain ⟨s, hs, rfl, hs5⟩ := s_of hA c
    have z0 : M (x + 3 + 17 + s) 0 = A (59 + 8 * s) := RC_s hR hs (k := 0) (by decide)
    have z1 : M (x + 3 + 17 + s) 1 = A (59 + 8 * s + 1) := RC_s hR hs (by decide)
    have z2 : M (x + 3 + 17 + s) 2 = A (59 + 8 * s + 2) := RC_s hR hs (by decide)
    have z3 : M (x + 3 + 17 + s) 3 = A (59 + 8 * s + 3) := RC_s hR hs (by decide)
    have z4 : M (x + 3 + 17 + s) 4 = A (59 + 8 * s + 4) := RC_s hR hs (by decide)
    have z5 : M (x + 3 + 17 + s) 5 = A (59 + 8 * s + 5) := RC_s hR hs (by decide)
    have z6 : M (x + 3 + 17 + s) 6 = A (59 + 8 * s + 6) := RC_s hR hs (by decide)
    have z7 : M (x + 3 + 17 + s) 7 = A (59 + 8 * s + 7) := RC_s hR hs (by decide)
    rw [if_pos c, if_pos c, calp_r, ixN (by omega)]
    by_cases d : 0 ≤ q ∧ q ≤ 7
    · rcases in8 d with rfl | rfl | rfl | rfl | rfl | rfl | rfl | rfl <;> simp (decide := true) only [↓reduceIte, calp_r, z0, z1, z2, z3, z4, z5, z6, z7]
    · have hn : ∀ j : Int32, (0 ≤ j ∧ j ≤ 7) → ¬ q = j := fun j hj e => d (by rw [e]; exact hj)
      rw [if_neg (hn 0 (by decide)), if_neg (hn 1 (by decide)), if_neg (hn 2 (by decide)), if_neg (hn 3 (by decide)), if_neg (hn 4 (by decide)), if_neg (hn 5 (by decide)), if_neg (hn 6 (by decide)), if_neg (hn 7 (by decide)), if_neg (hn 0 (by decide)), if_neg (hn 1 (by decide)), if_neg (hn 2 (by decide)), if_neg (hn 3 (by decide)), if_neg (hn 4 (by decide)), if_neg (hn 5 (by decide)), if_neg (hn 6 (by decide)), if_neg (hn 7 (by decide)), calp_l, if_neg (show ¬ (1 : Nat) = 3 by decide), if_pos rfl]
  · rw [if_neg c, if_neg c, calp_l, calp_l, if_pos rfl]
theorem t_wv (h : Ob K M x A R) (p : Int32) : f_L_tryWaves F x p M = some (aWv A p) := by
  obtain ⟨w, w0, w1, hw⟩ := WF_6 h.2.2.1.1
  unfold f_L_tryWaves f_X10_waves aWv
  rw [c_rr]
  by_cases c : 0 ≤ p ∧ p ≤ 9999
  · obtain ⟨d, hd, rfl⟩ := exN (n := 9999) c.1 c.2 (by decide)
    rw [if_pos c, if_pos c, calp_r, show x + 3 + 3 = (x + 3) + 3 from rfl, c_on h.2.1 (by omega) w0 w1 hw, cal_s, calp_r]
  · rw [if_neg c, if_neg c, calp_l, calp_l, if_pos rfl]
theorem t_ac (h : Ob K M x A R) (hF : 5 ≤ F) (p : Int32) : f_L_tryAccount F x p M = some (aAc A p) := by
  have hR := h.2.1
  obtain ⟨l0, l1, l2, l3, l4, l5, l6⟩ := hR.2.1
  have ca := c_ab (F := F) hR hF
  unfold f_L_tryAccount aAc
  by_cases c : 0 ≤ p ∧ p ≤ 7
  · rcases in8 c with rfl | rfl | rfl | rfl | rfl | rfl | rfl | rfl <;> unfold f_X10_account <;> simp (decide := true) only [↓reduceIte, l0, l1, l2, l3, l4, l5, l6, ca, cal_s, calp_r]
  · have hn : ∀ j : Int32, (0 ≤ j ∧ j ≤ 7) → ¬ p = j := fun j hj e => c (by rw [e]; exact hj)
    rw [acc_o c, calp_l, if_pos rfl, if_neg (hn 0 (by decide)), if_neg (hn 1 (by decide)), if_neg (hn 2 (by decide)), if_neg (hn 3 (by decide)), if_neg (hn 4 (by decide)), if_neg (hn 5 (by decide)), if_neg (hn 6 (by decide)), if_neg (hn 7 (by decide))]
theorem t_nd (h : Ob K M x A R) (p u : Int32) : f_L_tryNeeds F x p u M = some (aNd A p u) := by
  have hA := h.2.2.1.1
  unfold f_L_tryNeeds f_X10_needs aNd
  rw [c_exZ h.2.1 hA]
  by_cases c : 0 ≤ p ∧ p ≤ A 4 - 1
  · obtain ⟨z, hz, rfl, hz4⟩ := z_of hA c
    rw [if_pos c, if_pos c, calp_r, c_rr]
    by_cases c2 : 0 ≤ u ∧ u ≤ 99
    · have e : f_X9_cableFor F (x + 3 + 8 + ix (nI z)) u M = some (dNeed A z u) := by
        unfold f_X9_cableFor dNeed
        rw [ixN (by omega), RC_z h.2.1 (by omega) hz4 (by decide)]
      rw [if_pos c2, if_pos c2, calp_r, e, cal_s, calp_r, ixN (by omega)]
    · rw [if_neg c2, if_neg c2, calp_l, calp_l, if_neg (show ¬ (1 : Nat) = 3 by decide), if_pos rfl]
  · rw [if_neg c, if_neg c, calp_l, calp_l, if_pos rfl]
theorem t_rc (h : Ob K M x A R) (p q : Int32) : f_L_tryReach F x p q M = some (aRc A p q) := by
  have hA := h.2.2.1.1
  unfold f_L_tryReach f_X10_reach aRc
  rw [c_exS h.2.1 hA]
  by_cases c : 0 ≤ p ∧ p ≤ A 5 - 1
  · rw [if_pos c, if_pos c, calp_r, c_exZ h.2.1 hA]
    by_cases c2 : 0 ≤ q ∧ q ≤ A 4 - 1
    · obtain ⟨s, hs, rfl, hs5⟩ := s_of hA c
      obtain ⟨z, hz, rfl, hz4⟩ := z_of hA c2
      obtain ⟨w0, w1, w2, w3⟩ := hA.2.2.2.2.2.2.1 z hz hz4
      obtain ⟨l, hl, e3⟩ := exN (n := 9) w3.1 w3.2 (by decide)
      have z0 : M (x + 3 + 8 + z) 0 = A (23 + 4 * z) := RC_z h.2.1 hz hz4 (k := 0) (by decide)
      rw [if_pos c2, if_pos c2, calp_r, ixN (by omega), ixN (by omega), c_mostU h.2.1 hs hz hz4 hl e3, cal_s, calp_r, z0]
    · rw [if_neg c2, if_neg c2, calp_l, calp_l, if_pos rfl]
  · rw [if_neg c, if_neg c, calp_l, calp_l, if_pos rfl]
/-- days between the first and the last one, counted -/
theorem dCalm_b {s : Nat} {j : Nat} : ∀ {d c : Nat}, c + j < 1000000 → ∃ n, n ≤ c + j ∧ c ≤ n ∧ dCalm s A j d (nI c) = nI n := by
  induction j with
  | zero => intro d c _; exact ⟨c, by omega, by omega, rfl⟩
  | succ j ih =>
    intro d c h
    unfold dCalm
    by_cases k : A (59 + 8 * s + 2) < dWav A (nI d)
    · rw [if_pos k]
      obtain ⟨n, n1, n2, n3⟩ := ih (d := d + 1) (c := c) (by omega)
      exact ⟨n, by omega, n2, n3⟩
    · rw [if_neg k, ad1]
      obtain ⟨n, n1, n2, n3⟩ := ih (d := d + 1) (c := c + 1) (by omega)
      exact ⟨n, by omega, by omega, n3⟩
theorem t_cdN (h : Ob K M x A R) {p q : Int32} (c : ¬ (0 ≤ p ∧ p ≤ A 5 - 1) ∨ ¬ (0 ≤ q ∧ q ≤ A 4 - 1)) : f_L_tryCalmDays F x p q M = some (-1001) := by
  have hA := h.2.2.1.1
  unfold f_L_tryCalmDays f_X10_calmDays
  rw [c_exS h.2.1 hA]
  by_cases c1 : 0 ≤ p ∧ p ≤ A 5 - 1
  · rw [if_pos c1, calp_r, c_exZ h.2.1 hA, if_neg (c.resolve_left (fun y => y c1)), calp_l, calp_l, if_pos rfl]
  · rw [if_neg c1, calp_l, calp_l, if_pos rfl]
theorem t_cd (h : Ob K M x A R) (hF : 1573 < F) (hK : K < 700000000) {s z : Nat} (hs : s < 4) (hs5 : nI s < A 5) (hz : z < 9) (hz4 : nI z < A 4) : ∃ v, f_L_tryCalmDays F x (nI s) (nI z) M = some v ∧ ∃ e b n : Nat, e ≤ 999 ∧ b < 1000000000 ∧ A (23 + 4 * z + 2) = nI e ∧ (if A 3 < A (23 + 4 * z + 1) then A (23 + 4 * z + 1) else A 3) = nI b ∧ v = nI n ∧ n ≤ e + 1 - b := by
  have hA := h.2.2.1.1
  have q4 := hA.2.2.1.2.2.2.1
  have q5 : 1 ≤ A 5 ∧ A 5 ≤ 4 := by rcases hA.1.1 with q | q | q | q <;> rw [q] <;> decide
  have c : 0 ≤ nI s ∧ nI s ≤ A 5 - 1 := ⟨nI_pos' (by omega), by grind⟩
  have c2 : 0 ≤ nI z ∧ nI z ≤ A 4 - 1 := ⟨nI_pos' (by omega), by grind⟩
  obtain ⟨w0, w1, w2, w3⟩ := hA.2.2.2.2.2.2.1 z hz hz4
  obtain ⟨f, hf, e1⟩ := exN (n := 99) w1.1 w1.2 (by decide)
  obtain ⟨e, he, e2⟩ := exN (n := 999) w2.1 w2.2 (by decide)
  obtain ⟨t, ht, e3⟩ := exN (n := K) hA.2.2.1.2.2.1.1 hA.2.2.1.2.2.1.2 (by omega)
  obtain ⟨w, hw0, hw1, hw⟩ := WF_6 hA
  obtain ⟨d0, hd0, y1, y2⟩ : ∃ d0, d0 < 1000000000 ∧ zmax (nI t) (nI f) = nI d0 ∧ (if nI t < nI f then nI f else nI t) = nI d0 := by
    unfold zmax
    by_cases ee : t < f
    · exact ⟨f, by omega, by rw [if_pos (nI_lt ee (by omega))], by rw [if_pos (nI_lt ee (by omega))]⟩
    · exact ⟨t, by omega, by rw [if_neg (nI_nlt (by omega) (by omega))], by rw [if_neg (nI_nlt (by omega) (by omega))]⟩
  have hj : d0 + (e + 1 - d0) = e + 1 ∨ (e + 1 - d0 = 0 ∧ e < d0) := by omega
  have cc := c_calm (F := F) (p1 := nI s) (p2 := nI z) (v := 0) (fu := F) h.2.1 hs hz hz4 hw0 hw1 hw e2 he hj (by omega) (by omega)
  obtain ⟨n, n1, n2, n3⟩ := dCalm_b (s := s) (A := A) (j := e + 1 - d0) (d := d0) (c := 0) (by omega)
  unfold f_L_tryCalmDays f_X10_calmDays
  rw [c_exS h.2.1 hA, if_pos c, calp_r, c_exZ h.2.1 hA, if_pos c2, calp_r, ixN (by omega), ixN (by omega), bnd_e, show M (x + 3) 8 = nI t from h.2.1.1.2.2.2.1.trans e3, RC_z h.2.1 hz hz4 (by decide), e1, y1, cc, calp_r]
  exact ⟨_, rfl, e, d0, n, he, hd0, e2, by rw [e3]; exact y2, n3, by omega⟩
end
