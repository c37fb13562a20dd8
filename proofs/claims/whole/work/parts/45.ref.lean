section
variable {F r : Nat} {M : zMi} {A : Pg}
theorem exN {x : Int32} {n : Nat} (h0 : 0 ≤ x) (h : x ≤ nI n) (hn : n < 2147483648) : ∃ j : Nat, j ≤ n ∧ x = nI j := by
  obtain ⟨j, hj, rfl⟩ := nI_of (x := x) (by grind)
  exact ⟨j, (nI_leI hj hn).mp h, rfl⟩
theorem m_waves {d w : Nat} (hd : d < 2147483648) (hw : 0 < w) (hw2 : w ≤ 30) (h6 : A 6 = nI w) : f_X11_wavesOf F r (nI d) (pR M r A) = some (dWav A (nI d)) := by
  have h0 : nI w ≠ 0 := nI_ne0 hw (by omega)
  have hm : d % w < w := Nat.mod_lt _ hw
  unfold f_X11_wavesOf dWav
  simp only [pR_s, h6, pk_rem hd hw (by omega : w < 2147483648), a91N]
  rw [inbN (by omega) (by omega), ixN (by omega), ixN (by omega)]
  simp [h0, grd]
theorem m_freeStep {n t : Nat} {v : Int32} (ht : t < 3) : f_X11_freeTeams_20 F r (n + 1) v (nI t) (pR M r A) = if nI t < A 0 then f_X11_freeTeams_20 F r n (v - (if 0 < A (13 + t) then 1 else 0)) (nI (t + 1)) (pR M r A) else some v := by
  rw [f_X11_freeTeams_20]
  simp (disch := omega) only [bnd_e, a13N, ad1, pR_s, inbN, ixN, grd_t]
  by_cases h1 : nI t < A 0 <;> by_cases h2 : 0 < A (13 + t) <;> simp only [h1, h2, ↓reduceIte]
def wTm (A : Pg) : Prop := (A 0 = 1 ∨ A 0 = 2 ∨ A 0 = 3) ∧ ∀ t, t < 3 → (A (13 + t) = 0 ∨ A (13 + t) = 1 ∨ A (13 + t) = 2) ∧ (¬ nI t < A 0 → A (13 + t) = 0)
theorem m_free (hF : 4 ≤ F) (h : wTm A) : f_X11_freeTeams F r (pR M r A) = some (dFree A) := by
  have a0 := (h.2 0 (by decide)).2
  have a1 := (h.2 1 (by decide)).2
  have a2 := (h.2 2 (by decide)).2
  simp only [Nat.reduceAdd] at a0 a1 a2
  have c0 : nI 0 < A 0 := by rcases h.1 with h5 | h5 | h5 <;> rw [h5] <;> decide
  have c3 : ¬ nI 3 < A 0 := by rcases h.1 with h5 | h5 | h5 <;> rw [h5] <;> decide
  have c12 : nI 2 < A 0 → nI 1 < A 0 := by rcases h.1 with h5 | h5 | h5 <;> rw [h5] <;> decide
  obtain ⟨m, rfl⟩ : ∃ m, F = m + 4 := ⟨F - 4, by omega⟩
  have e3 : ∀ v, f_X11_freeTeams_20 (m + 4) r (m + 1) v (nI 3) (pR M r A) = some v := fun v => by
    rw [f_X11_freeTeams_20]; simp only [pR_s]; rw [if_neg c3]
  have hh : ∀ v, f_X11_freeTeams_20 (m + 4) r (m + 4) v (0 : Int32) (pR M r A) = some (v - (if 0 < A 13 then 1 else 0) - (if 0 < A 14 then 1 else 0) - (if 0 < A 15 then 1 else 0)) := by
    intro v
    have zz : ∀ x : Int32, x - (if 0 < (0 : Int32) then 1 else 0) = x := fun x => by simp
    rw [show f_X11_freeTeams_20 (m + 4) r (m + 4) v (0 : Int32) (pR M r A) = f_X11_freeTeams_20 (m + 4) r (m + 4) v (nI 0) (pR M r A) from rfl, m_freeStep (by decide), if_pos c0, m_freeStep (by decide), m_freeStep (by decide), e3]
    simp only [Nat.reduceAdd]
    by_cases b1 : nI 1 < A 0
    · rw [if_pos b1]
      by_cases b2 : nI 2 < A 0
      · rw [if_pos b2]
      · rw [if_neg b2, a2 b2, zz]
    · rw [if_neg b1, a1 b1, a2 (fun x => b1 (c12 x)), zz, zz]
  unfold f_X11_freeTeams dFree
  simp only [pR_s, bnd_e, hh]
  by_cases h1 : A 10 = 2 <;> simp only [h1, ↓reduceIte]
theorem m_restStep {n t : Nat} (ht : t < 3) : f_X11_restOn_2 F r (n + 1) (nI t) (pR M r A) = if nI t < A 0 then (if A (13 + t) = 0 then some (pR M r (pU A (13 + t) 2)) else f_X11_restOn_2 F r n (nI (t + 1)) (pR M r A)) else some (pR M r A) := by
  rw [f_X11_restOn_2]
  simp (disch := omega) only [bnd_e, a13N, ad1, pR_s, inbN, ixN, grd_t, pR_w]
theorem m_restOn (hF : 4 ≤ F) (h : wTm A) : f_X11_restOn F r (pR M r A) = some (pR M r (dRestOn A)) := by
  have c0 : nI 0 < A 0 := by rcases h.1 with h5 | h5 | h5 <;> rw [h5] <;> decide
  have c3 : ¬ nI 3 < A 0 := by rcases h.1 with h5 | h5 | h5 <;> rw [h5] <;> decide
  have c1 : nI 1 < A 0 ↔ (1 : Int32) < A 0 := Iff.rfl
  have c2 : nI 2 < A 0 ↔ (2 : Int32) < A 0 := Iff.rfl
  have c12 : nI 2 < A 0 → nI 1 < A 0 := by rcases h.1 with h5 | h5 | h5 <;> rw [h5] <;> decide
  obtain ⟨m, rfl⟩ : ∃ m, F = m + 4 := ⟨F - 4, by omega⟩
  have e3 : f_X11_restOn_2 (m + 4) r (m + 1) (nI 3) (pR M r A) = some (pR M r A) := by
    rw [f_X11_restOn_2]; simp only [pR_s]; rw [if_neg c3]
  unfold f_X11_restOn dRestOn
  rw [show (0:Int32) = nI 0 from rfl, m_restStep (by decide), if_pos c0, m_restStep (by decide), m_restStep (by decide), e3]
  simp only [Nat.reduceAdd]
  rw [show nI 0 = (0 : Int32) from rfl]
  grind
theorem m_need {z u l : Nat} {p : Int32} (hz : z < 9) : f_X11_needOf F r (nI z) p (pR M r A) = some (dNeed A z p) := by
  unfold f_X11_needOf dNeed
  simp (disch := omega) only [m_zoneAt, cal_s, ad3, pR_s, inbN, ixN, grd_t]
theorem nd_N {z u l : Nat} (hu : u ≤ 99) (hl : l ≤ 9) (h : A (23 + 4 * z + 3) = nI l) : dNeed A z (nI u) = nI (u + (u * l + 99) / 100) := by
  have : u * l ≤ 99 * 9 := Nat.mul_le_mul hu hl
  unfold dNeed
  rw [h, nI_mul, show (99 : Int32) = nI 99 from rfl, nI_add, show (100 : Int32) = nI 100 from rfl, pk_div (by omega) (by omega) (by omega), nI_add]
theorem mo_a {v l c : Nat} : v + (v * l + 99) / 100 ≤ c ↔ v ≤ 100 * c / (100 + l) := by
  rw [Nat.le_div_iff_mul_le (by omega), Nat.mul_add]
  generalize v * l = p
  omega
theorem zminN {a b : Nat} (ha : a < 2147483648) (hb : b < 2147483648) : zmin (nI a) (nI b) = nI (min a b) := by
  unfold zmin
  by_cases h : b < a
  · rw [if_pos ((nI_ltI hb ha).mpr h), Nat.min_eq_right (by omega)]
  · rw [if_neg (fun x => h ((nI_ltI hb ha).mp x)), Nat.min_eq_left (by omega)]
theorem dMost_N {s z u l c : Nat} (hu : u ≤ 99) (hl : l ≤ 9) (hc : c ≤ 999) (h3 : A (23 + 4 * z + 3) = nI l) (h4 : A (59 + 8 * s + 4) = nI c) : dMost A s z (nI u) = nI (min u (100 * c / (100 + l))) := by
  unfold dMost
  have hq : 100 * c / (100 + l) ≤ 100 * c := Nat.div_le_self _ _
  rw [h3, h4, show (100 : Int32) = nI 100 from rfl, nI_mul, nI_add, pk_div (by omega) (by omega) (by omega), zminN (by omega) (by omega)]
theorem m_most {s z u l c : Nat} (hs : s < 4) (hz : z < 9) (hu : u ≤ 99) (hl : l ≤ 9) (hc : c ≤ 999) (h3 : A (23 + 4 * z + 3) = nI l) (h4 : A (59 + 8 * s + 4) = nI c) (hF : 101 ≤ F) : f_X11_mostOf F r (nI s) (nI z) (nI u) (pR M r A) = some (dMost A s z (nI u)) := by
  have hh : ∀ v n, v ≤ u → v < n → f_X11_mostOf_3 F r (nI s) (nI z) (nI u) n (nI v) (pR M r A) = some (nI (min v (100 * c / (100 + l)))) := by
    intro v
    induction v with
    | zero =>
      intro n _ hn
      obtain ⟨n, rfl⟩ : ∃ k, n = k + 1 := ⟨n - 1, by omega⟩
      rw [f_X11_mostOf_3]
      have hl0 := mo_a (v := 0) (l := l) (c := c)
      simp (disch := omega) only [m_need (u := 0) (l := 0) hz, m_shipAt, cal_s, ad4, pR_s, inbN, ixN, grd_t, nd_N (u := 0) (by omega) hl h3, h4]
      have : 0 * l = 0 := Nat.zero_mul l
      rw [if_neg (nI_nlt (by omega) (by omega)), Nat.min_eq_left (by omega)]
    | succ v ih =>
      intro n hv hn
      obtain ⟨n, rfl⟩ : ∃ k, n = k + 1 := ⟨n - 1, by omega⟩
      have hb : (v + 1) * l ≤ 99 * 9 := Nat.mul_le_mul (by omega) hl
      have hm := mo_a (v := v + 1) (l := l) (c := c)
      rw [f_X11_mostOf_3]
      simp (disch := omega) only [m_need (u := 0) (l := 0) hz, m_shipAt, cal_s, ad4, pR_s, inbN, ixN, grd_t, nd_N (u := v + 1) (by omega) hl h3, h4]
      by_cases hx : (v + 1) + ((v + 1) * l + 99) / 100 ≤ c
      · rw [if_neg (nI_nlt (by omega) (by omega)), Nat.min_eq_left (hm.mp hx)]
      · rw [if_pos (nI_lt (by omega) (by omega)), pk_m1, ih n (by omega) (by omega)]
        have : 100 * c / (100 + l) ≤ v := by
          have := fun x => hx (hm.mpr x)
          omega
        rw [Nat.min_eq_right (by omega), Nat.min_eq_right (by omega)]
  unfold f_X11_mostOf
  rw [hh u F (by omega) (by omega), dMost_N hu hl hc h3 h4]
theorem m_way : f_X11_wayOf F r (pR M r A) = some (dWay A) := by
  unfold f_X11_wayOf dWay
  rw [m_isFin, cal_s, pR_s]
  by_cases h : A 7 = A 4 <;> simp [h]
theorem m_home {s : Nat} {d : Int32} (hs : s < 4) : f_X11_goHome F r (nI s) d (pR M r A) = some (pR M r (dHome A s d)) := by
  unfold f_X11_goHome dHome
  simp (disch := omega) only [f_X11_goHome_23, f_X11_goHome_43, m_shipAt, cal_s, bnd_e, ad5, ad6, pR_s, inbN, ixN, grd_t, pR_w, pU_s, pU_n]
  by_cases h1 : A (59 + 8 * s + 5) = 3 <;> by_cases h2 : A 10 = 2 <;> simp [h1, h2]
end
