section
variable {F x K : Nat} {M : zMi} {A B : Pg} {R R' : Rs} {s z f m a : Nat} {d v4 v7 w v v10 : Int32}
theorem l_h298 (h : Oh K M x A R) (hc : Hc A d v4 v7 w f s z) (hF : 1573 < F) (hK : K + 99 < 1000000) (ha : a < 2147483648) : Go (f_L_hands_279 F x (nI a) d v4 (nI s) (nI z) v7 (dWay A) w (A 2) 1 M) M x K A (rClr R) 1 := by
  obtain ⟨c1, c2, c3, c4, c5, c6, c7, c8, c9⟩ := id hc
  have hA := h.1.2.2.1.1
  have hs : s < 4 := by omega
  have hp : nI s < A 5 := by rw [c4]; exact nI_lt c6 (by omega)
  obtain ⟨-, -, ⟨-, -, b10, -⟩, -, b13⟩ := t_b (F := F) h.1 (by omega)
  have q10 := hA.2.2.1.2.2.2.2.2.2.2.1.1
  have yes : (A (59 + 8 * s + 5) = 2 ∨ A (59 + 8 * s + 5) = 3) → Go (f_L_hands_298 F x (nI a) d v4 (nI s) (nI z) v7 (dWay A) w (A 2) 1 1 M) M x K A (rClr R) 1 := fun k => by
    unfold f_L_hands_298
    refine Go_rd b10 (Go_rd b13 (Go_ifn (by decide) ?_))
    refine Go_bind (t_recallY h.1 (by omega) (by omega) hs hp k) (fun M' h' => Go_ifn (by decide) ?_)
    have hp' : nI s < dRecall s A 5 := by
      unfold dRecall dHome
      rw [pU_n (by omega), pU_n (by omega), pU_n (by omega), pU_n (by omega)]
      split
      · rw [dRestOn_hi ⟨by decide, by decide, by decide⟩]; exact hp
      · exact hp
    have e5 := (t_s5 (F := F) h' hs hp').2.2.1
    rw [dRecall_5] at e5
    obtain ⟨-, -, ⟨g8, -, g10, -⟩, -, g13⟩ := t_b (F := F) h' (by omega)
    rw [dRecall_free hA hs k] at g13
    have nx : Go (f_L_hands_385 F x (nI a) d v4 (nI s) (nI z) v7 w (A 2) (A 10) (dFree A) M') M' x K A (rClr (rPush A R)) 1 := by
      unfold f_L_hands_385
      exact Go_rd g13 (Go_if rfl (l_h396 (R' := rPush A R) h' h.2 hc hF hK ha q10))
    unfold f_L_hands_340
    refine Go_if rfl (Go_ifn (by decide) (Go_rd e5 (Go_if rfl ?_)))
    rw [c7]
    by_cases k3 : A (59 + 8 * s + 5) = 3
    · rw [dRecall_f hA hs k3] at g8
      rw [dRecall_10 k3] at g10
      refine Go_if k3 (Go_rd g8 (Go_if rfl (Go_rd g10 (Go_if rfl ?_))))
      rw [← c7]; exact nx
    · refine Go_ifn k3 ?_
      rw [← c7]; exact nx
  unfold f_L_hands_279
  by_cases k2 : w = 2
  · exact Go_if k2 (yes (Or.inl (by rw [← c7]; exact k2)))
  · refine Go_ifn k2 ?_
    by_cases k3 : w = 3
    · exact Go_if k3 (yes (Or.inr (by rw [← c7]; exact k3)))
    · refine Go_ifn k3 ?_
      have k : ¬ (A (59 + 8 * s + 5) = 2 ∨ A (59 + 8 * s + 5) = 3) := by rw [← c7]; rintro (y | y); exact k2 y; exact k3 y
      unfold f_L_hands_298
      refine Go_rd b10 (Go_rd b13 (Go_ifn (by decide) ?_))
      refine Go_bind (t_recallN h.1 hs hp k) (fun M' h' => Go_if rfl ?_)
      unfold f_L_hands_340
      exact Go_if rfl (Go_if rfl (l_h396 h' h.2 hc hF hK ha q10))
theorem l_h265 (h : Ob K M x B R') (hS : R'.2.2 0 = some A) (hc : Hc A d v4 v7 w f s z) (hF : 1573 < F) (hK : K + 99 < 1000000) (ha : a < 2147483648) : Go (f_L_hands_265 F x (nI a) d v4 (nI s) (nI z) v7 (dWay A) w (A 2) M) M x K A (rClr R') 1 := by
  unfold f_L_hands_265
  refine Go_bind (t_resY (s := 0) (B := A) h (by omega) (by decide) hS) (fun _ h' => Go_if hc.1.symm ?_)
  exact l_h298 (R := rClr R') ⟨h', hS⟩ hc hF hK ha
theorem l_h189 {u : Int32} (h : Ob K M x B R') (hS : R'.2.2 0 = some A) (hc : Hc A d v4 v7 w f s z) (hF : 1573 < F) (hK : K + 99 < 1000000) (ha : a < 2147483648) (h2 : B 2 = A 2 - u) (e : ∀ k, k = 4 ∨ k = 5 ∨ k = 7 ∨ k = 59 + 8 * s + 5 → B k = A k) : Go (f_L_hands_189 F x (nI a) d v4 (nI s) (nI z) v7 (dWay A) w (A 2) u (A 2) (B 2) M) M x K A (rClr R') 1 := by
  obtain ⟨c1, c2, c3, c4, c5, c6, c7, c8, c9⟩ := id hc
  have hs : s < 4 := by omega
  have e4 := e 4 (Or.inl rfl)
  have e5 := e 5 (Or.inr (Or.inl rfl))
  have e7 := e 7 (Or.inr (Or.inr (Or.inl rfl)))
  have ew := e _ (Or.inr (Or.inr (Or.inr rfl)))
  have hp : nI s < B 5 := by rw [e5, c4]; exact nI_lt c6 (by omega)
  have q7 := h.2.2.1.1.2.2.1.2.2.2.2.2.1
  unfold f_L_hands_189
  refine Go_if h2 (Go_rd (l_sound h (by omega)) (Go_ifn (by decide) ?_))
  by_cases k : B (59 + 8 * s + 5) = 0 ∧ B 7 ≠ B 4
  · refine Go_bind (t_sendY h (by omega) (by omega) hs hp k) (fun _ h' => Go_if (by rw [c7, ← ew]; exact k.1) (Go_if (by rw [c3, c2, ← e7, ← e4]; have := k.2; grind) ?_))
    have ed : dWay A = B 7 + 1 := by unfold dWay; rw [← e7, ← e4, if_neg k.2]
    have hp' : nI s < dSend s B 5 := by unfold dSend; rw [pU_n (by omega), pU_n (by omega)]; exact hp
    obtain ⟨-, -, g5, g6, -⟩ := t_s5 (F := F) h' hs hp'
    rw [show dSend s B (59 + 8 * s + 5) = 1 by unfold dSend; rw [pU_n (by omega), pU_s]] at g5
    rw [show dSend s B (59 + 8 * s + 6) = B 7 + 1 by unfold dSend; rw [pU_s]] at g6
    unfold f_L_hands_226
    refine Go_if ed.symm (Go_if (by rw [c7, ← ew]; exact k.1) (Go_ifn (by rw [c3, c2, ← e7, ← e4]; exact k.2) (Go_rd g5 (Go_if rfl (Go_rd g6 (Go_if ed.symm ?_))))))
    exact l_h265 (R' := rPush B R') h' hS hc hF hK ha
  · refine Go_bind (t_sendN h hs hp k) (fun M' h' => ?_)
    have nx : Go (f_L_hands_226 F x (nI a) d v4 (nI s) (nI z) v7 (dWay A) w (A 2) (-1003) (-1003) M') M' x K A (rClr R') 1 := by
      unfold f_L_hands_226
      refine Go_if rfl ?_
      by_cases k1 : w = 0
      · have k2 : v7 = v4 := by
          rw [c3, c2, ← e7, ← e4]
          by_cases y : B 7 = B 4
          · exact y
          · exact absurd ⟨by rw [ew, ← c7]; exact k1, y⟩ k
        exact Go_if k1 (Go_if k2 (l_h265 h' hS hc hF hK ha))
      · exact Go_ifn k1 (l_h265 h' hS hc hF hK ha)
    by_cases k1 : w = 0
    · have k2 : ¬ v7 < v4 := by
        rw [c3, c2, ← e7, ← e4]
        by_cases y : B 7 = B 4
        · rw [y]; grind
        · exact absurd ⟨by rw [ew, ← c7]; exact k1, y⟩ k
      exact Go_if k1 (Go_ifn k2 nx)
    · exact Go_ifn k1 nx
theorem l_h143 {u : Int32} (h : Oh K M x A R) (hc : Hc A d v4 v7 w f s z) (hF : 1573 < F) (hK : K + 99 < 1000000) (ha : a < 2147483648) (hu : 1 ≤ u ∧ u ≤ 999) : (canT s u A → Go (f_L_hands_143 F x (nI a) d v4 (nI s) (nI z) v7 (dWay A) w (A 2) 1 u 1 M) M x K A (rClr R) 1) ∧ (¬ canT s u A → Go (f_L_hands_143 F x (nI a) d v4 (nI s) (nI z) v7 (dWay A) w (A 2) 1 u 0 M) M x K A (rClr R) 1) := by
  obtain ⟨c1, c2, c3, c4, c5, c6, c7, c8, c9⟩ := id hc
  have hs : s < 4 := by omega
  have hp : nI s < A 5 := by rw [c4]; exact nI_lt c6 (by omega)
  have cap := (h.1.2.2.1.2.2.1 s hs hp).1
  obtain ⟨-, -, u2, -⟩ := h.1.2.2.1.1.2.2.2.2.2.2.2 s hs
  unfold f_L_hands_143
  constructor
  · intro k
    refine Go_ifn (by decide) (Go_bind (t_takeY h.1 (by omega) (by omega) hs hp hu k) (fun M' h' => ?_))
    refine Go_ifn (by have := k.2.2; grind) ?_
    have b4 := (t_b (F := F) h' (by omega)).2.1.1
    unfold f_L_hands_166
    refine Go_if rfl (Go_rd b4 (Go_ifn (by decide) ?_))
    refine l_h189 (R' := rPush A R) h' h.2 hc hF hK ha (by unfold dTake; rw [pU_n (by omega), pU_s]) (fun k hk => dTake_n ?_ ?_)
    · omega
    · omega
  · intro k
    refine Go_ifn (by decide) (Go_bind (t_takeN h.1 hs hp hu k) (fun M' h' => Go_if (show (-1003 : Int32) < 0 by decide) ?_))
    have b4 := (t_b (F := F) h' (by omega)).2.1.1
    unfold f_L_hands_166
    refine Go_if rfl (Go_rd b4 (Go_if rfl ?_))
    exact l_h189 h' h.2 hc hF hK ha (by grind) (fun k hk => rfl)
theorem l_h56 (h : Ob K M x A R) (hc : Hc A d v4 v7 w f s z) (hF : 1573 < F) (hK : K + 99 < 1000000) (ha : a < 2147483648) : Go (f_L_hands_56 F x (nI a) d v4 (nI s) (nI z) v7 (dWay A) M) M x K A (rClr (rSet 0 A R)) 1 := by
  obtain ⟨c1, c2, c3, c4, c5, c6, c7, c8, c9⟩ := id hc
  have hs : s < 4 := by omega
  have hp : nI s < A 5 := by rw [c4]; exact nI_lt c6 (by omega)
  have e5 := (t_s5 (F := F) h hs hp).2.2.1
  have b4 := (t_b (F := F) h (by omega)).2.1.1
  unfold f_L_hands_56
  refine Go_rd e5 (Go_rd b4 (Go_bind (t_saveY (s := 0) h (by omega) (by decide)) (fun M' h' => Go_if c1.symm ?_)))
  have g : Oh K M' x A (rSet 0 A R) := ⟨h', rfl⟩
  obtain ⟨⟨s0, -, -, -⟩, s4, -⟩ := t_s5 (F := F) h' hs hp
  have hm : a / 64 % 160 < 160 := Nat.mod_lt _ (by decide)
  unfold f_L_hands_88
  rw [show nI a / (64 : Int32) = nI (a / 64) from div_N ha (by decide) (by decide) rfl, show nI (a / 64) - nI (a / 64) / (160 : Int32) * (160 : Int32) = nI (a / 64 % 160) from rem_N (dlt ha) (by decide) (by decide) rfl, one_N]
  generalize hm' : 1 + a / 64 % 160 = m
  have hu : 1 ≤ nI m ∧ nI m ≤ 999 := ⟨nI_le (a := 1) (by omega) (by omega), nI_le (b := 999) (by omega) (by decide)⟩
  obtain ⟨y, n⟩ := l_h143 (F := F) (u := nI m) g hc hF hK ha hu
  rw [← c7]
  refine Go_rd s0 (Go_rd s4 (Go_bnd (Go_bnd ?_)))
  by_cases k : w = 0
  · refine Go_if k ?_
    by_cases k1 : A (59 + 8 * s) - A (59 + 8 * s + 4) < nI m
    · exact Go_if k1 (n (fun q => q.2.2 k1))
    · refine Go_ifn k1 ?_
      by_cases k2 : A 2 < nI m
      · exact Go_if k2 (n (fun q => q.2.1 k2))
      · exact Go_ifn k2 (y ⟨by rw [← c7]; exact k, k2, k1⟩)
  · exact Go_ifn k (n (fun q => k (by rw [c7]; exact q.1)))
/-- loading, sending, calling home, permits, buying, needs, forecasts held against what comes -/
theorem l_hands (h : Ob K M x A R) (hF : 1573 < F) (hK : K + 99 < 1000000) (ha : a < 2147483648) : Go (f_L_hands F x (nI a) M) M x K A (rClr (rSet 0 A R)) 1 := by
  obtain ⟨Z, Z0, Z4, hZ⟩ := WF_Z h.2.2.1
  obtain ⟨S, S0, S4, hS⟩ := wFl_N h.2.2.1.1.1
  obtain ⟨⟨b0, b1, -, -⟩, ⟨-, b5, b6, -⟩, -, -⟩ := t_b (F := F) h (by omega)
  rw [hZ] at b0
  rw [hS] at b1
  have hsS : a % S < S := Nat.mod_lt _ S0
  have hzZ : a / 4 % Z < Z := Nat.mod_lt _ Z0
  have nS : (!decide (nI S = 0)) = true := by simp [nI_ne0 (n := S) S0 (by omega)]
  have nZ : (!decide (nI Z = 0)) = true := by simp [nI_ne0 (n := Z) Z0 (by omega)]
  unfold f_L_hands
  refine Go_rd b5 (Go_rd b1 (Go_rd b0 (Go_grd nS (Go_bnd (Go_grd nZ (Go_bnd (Go_rd b6 ?_)))))))
  rw [show nI a - nI a / nI S * nI S = nI (a % S) from rem_N ha S0 (by omega) rfl, show nI a / (4 : Int32) = nI (a / 4) from div_N ha (by decide) (by decide) rfl, show nI (a / 4) - nI (a / 4) / nI Z * nI Z = nI (a / 4 % Z) from rem_N (dlt ha) Z0 (by omega) rfl]
  have hc : Hc A (A 3) (nI Z) (A 7) (A (59 + 8 * (a % S) + 5)) S (a % S) (a / 4 % Z) := ⟨rfl, hZ.symm, rfl, hS, S4, hsS, rfl, by omega, by rw [hZ]; exact nI_lt hzZ (by omega)⟩
  have nx := l_h56 (F := F) h hc hF hK ha
  unfold dWay at nx
  by_cases k : A 7 = nI Z
  · rw [if_pos (by rw [hZ]; exact k), hZ] at nx
    exact Go_if k nx
  · rw [if_neg (by rw [hZ]; exact k)] at nx
    exact Go_ifn k nx
end
