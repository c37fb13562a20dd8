section
variable {F a b K : Nat} {M : zMi} {A B C : Pg}
/-- the end of a day, no splice done -/
theorem c_58 (h : RC M a C) (ht : wTm C) (hF : 5 ≤ F) : ∃ M', f_X5_passDay_58 F a M = some M' ∧ fr a M M' ∧ RC M' a (pU (dRest (bk1 (dWts (C 9)) 3 (bk1 (dWts (C 9)) 2 (bk1 (dWts (C 9)) 1 (bk1 (dWts (C 9)) 0 C))))) 3 (C 3 + 1)) := by
  obtain ⟨M1, a1, b1, c1⟩ := c_book (F := F) Tu_T h hF
  have e3 : bk1 (dWts (C 9)) 3 (bk1 (dWts (C 9)) 2 (bk1 (dWts (C 9)) 1 (bk1 (dWts (C 9)) 0 C))) 3 = C 3 := by
    rw [bk1_n (by decide) (by decide), bk1_n (by decide) (by decide), bk1_n (by decide) (by decide), bk1_n (by decide) (by decide)]
  have wt : wTm (bk1 (dWts (C 9)) 3 (bk1 (dWts (C 9)) 2 (bk1 (dWts (C 9)) 1 (bk1 (dWts (C 9)) 0 C)))) := by
    have e : ∀ (s : Nat) (D : Pg), wTm D → wTm (bk1 (dWts (C 9)) s D) := fun s D h => wTm_up (wTm_up h (by decide)) (by decide)
    exact e _ _ (e _ _ (e _ _ (e _ _ ht)))
  generalize bk1 (dWts (C 9)) 3 (bk1 (dWts (C 9)) 2 (bk1 (dWts (C 9)) 1 (bk1 (dWts (C 9)) 0 C))) = D at *
  obtain ⟨M2, a2, b2, c2⟩ := c_rst (F := F) (b := a + 5) (M := M1) (by omega)
  have h2 : RC M2 a (dRest D) := by
    refine RC_tm c1 (fun k _ _ x => dRest_n (by omega)) (fun q x y => b2 q y) ?_
    rw [b2 (a + 5) (by omega), show a + 6 = a + 5 + 1 from rfl, c2]
    exact rT_dc c1.2.2.2.1 wt
  have f2 : fr a M M2 := fr_t b1 (fun q hq => b2 q (by omega))
  unfold f_X5_passDay_58
  rw [a1, cal_s, a2, cal_s, bnd_e, h2.1.2.2.2.1, dRest_n (by decide), e3]
  exact ⟨_, rfl, fr_t f2 (fr_w (by omega)), RC_h Tu_T (by decide) h2⟩
/-- the end of a day, a splice done -/
theorem c_58d (h : RCt rTd M a C) (ht : wTm C) (h11 : C 11 = 0) (hF : 5 ≤ F) : ∃ M', f_X5_passDay_58 F a M = some M' ∧ fr a M M' ∧ RC M' a (dEnd 10 (bk1 (dWts (C 9)) 3 (bk1 (dWts (C 9)) 2 (bk1 (dWts (C 9)) 1 (bk1 (dWts (C 9)) 0 C))))) := by
  obtain ⟨M1, a1, b1, c1⟩ := c_book (F := F) Tu_d h hF
  have wt : wTm (bk1 (dWts (C 9)) 3 (bk1 (dWts (C 9)) 2 (bk1 (dWts (C 9)) 1 (bk1 (dWts (C 9)) 0 C)))) := by
    have e : ∀ (s : Nat) (D : Pg), wTm D → wTm (bk1 (dWts (C 9)) s D) := fun s D h => wTm_up (wTm_up h (by decide)) (by decide)
    exact e _ _ (e _ _ (e _ _ (e _ _ ht)))
  have e11 : bk1 (dWts (C 9)) 3 (bk1 (dWts (C 9)) 2 (bk1 (dWts (C 9)) 1 (bk1 (dWts (C 9)) 0 C))) 11 = 0 := by
    rw [bk1_n (by decide) (by decide), bk1_n (by decide) (by decide), bk1_n (by decide) (by decide), bk1_n (by decide) (by decide)]; exact h11
  generalize bk1 (dWts (C 9)) 3 (bk1 (dWts (C 9)) 2 (bk1 (dWts (C 9)) 1 (bk1 (dWts (C 9)) 0 C))) = D at *
  obtain ⟨M2, a2, b2, c2⟩ := c_rst (F := F) (b := a + 5) (M := M1) (by omega)
  have h2 : RC M2 a (dRestOn (pU (pU (dRest D) 10 0) 12 (dRest D 12 + 1))) := by
    refine RC_tm c1 (fun k x y z => ?_) (fun q x y => b2 q y) ?_
    · rw [dRestOn_n (by omega)]
      by_cases q : k = 12
      · omega
      · rw [pU_n q, pU_n (by omega), dRest_n (by omega)]
    · rw [b2 (a + 5) (by omega), show a + 6 = a + 5 + 1 from rfl, c2]
      exact rTd_dc c1.2.2.2.1 wt e11
  have f2 : fr a M M2 := fr_t b1 (fun q hq => b2 q (by omega))
  unfold f_X5_passDay_58 dEnd
  rw [a1, cal_s, a2, cal_s, bnd_e, h2.1.2.2.2.1]
  dsimp only
  rw [if_pos rfl]
  exact ⟨_, rfl, fr_t f2 (fr_w (by omega)), RC_h Tu_T (by decide) h2⟩
theorem c_dsail (h : RC M a A) {n : Nat} : ∃ M', f_X5_passDay_10 F a (n + 5) (nI 0) M = f_X5_passDay_10 F a (n + 1) (nI 4) M' ∧ fr a M M' ∧ RC M' a (dSail A) := by
  have step : ∀ (s k : Nat) (N : zMi) (D : Pg), s < 4 → RC N a D → ∃ M', f_X5_passDay_10 F a (k + 1) (nI s) N = f_X5_passDay_10 F a k (nI (s + 1)) M' ∧ fr a N M' ∧ RC M' a (dSail1 s D) := by
    intro s k N D hs hN
    obtain ⟨M1, a1, b1, c1⟩ := c_sail1 (F := F) Tu_T hN hs
    rw [f_X5_passDay_10, if_pos (show nI s < 4 from nI_lt (b := 4) hs (by decide)), inbN hs (by decide), grd_t, ixN (by omega), Nat.one_mul, show a + 2 + 15 + s = a + 17 + s from rfl, bnd_e, a1, cal_s, ad1]
    exact ⟨M1, rfl, b1, c1⟩
  obtain ⟨M1, a1, b1, c1⟩ := step 0 (n + 4) M A (by decide) h
  obtain ⟨M2, a2, b2, c2⟩ := step 1 (n + 3) M1 _ (by decide) c1
  obtain ⟨M3, a3, b3, c3⟩ := step 2 (n + 2) M2 _ (by decide) c2
  obtain ⟨M4, a4, b4, c4⟩ := step 3 (n + 1) M3 _ (by decide) c3
  exact ⟨M4, a1.trans (a2.trans (a3.trans a4)), fr_t b1 (fr_t b2 (fr_t b3 b4)), c4⟩
theorem dF_lt (h : dF B < 4) : B (59 + 8 * dF B + 5) = 3 := dF_at (by omega)
theorem wOne_o (h : wOne B) : ∀ s, s < 4 → s ≠ dF B → B (59 + 8 * s + 5) ≠ 3 := by
  intro s hs hn
  have c : s = 0 ∨ s = 1 ∨ s = 2 ∨ s = 3 := by omega
  unfold dF at hn
  unfold wOne at h
  rcases c with rfl | rfl | rfl | rfl
  · show B 64 ≠ 3; grind
  · show B 72 ≠ 3; grind
  · show B 80 ≠ 3; grind
  · show B 88 ≠ 3; grind
theorem WG_wk (hB : WF K B) : WG ((dWk B).1 = 10) K (dWk B).2 := by
  unfold dWk
  by_cases h : dF B = 4
  · rw [if_pos h]
    refine WG_f ?_ hB
    show ¬ (if B 7 = B 4 then (0 : Int32) else 6) = 10
    split <;> decide
  · rw [if_neg h]; exact WF_work hB h
theorem c_dayB {N : zMi} (hN : RC N a B) (hB : WF K B) (hK : K < 1000000000) (hF : 101 ≤ F) : ∃ M', (if B 7 ≠ B 4 then cal (f_X5_workAtFront F a N) (fun r3 => bnd (wI r3.2 a 11 r3.1) (fun M4 => f_X5_passDay_58 F a M4)) else bnd (wI N a 11 0) (fun M5 => f_X5_passDay_58 F a M5)) = some M' ∧ fr a N M' ∧ RC M' a (dEnd (dWk B).1 (dBook B (dF B) (dWk B))) := by
  rw [dBook_b]
  obtain ⟨w1, w2, w3⟩ := dWk_ship (B := B) dF_lt
  have hwf := hB.2.2.2.2.2.1
  have hsh := hB.2.2.2.2.2.2.2
  have hKw := WG_wk hB
  have hfin : B 7 = B 4 → dWk B = (0, B) := fun q => by
    unfold dWk
    rw [if_pos (hwf.1 q), if_pos q]
  have sums : ∀ w : Bool, w = dWts (if (dWk B).1 = 10 then 0 else (dWk B).1) → bk1 w 3 (bk1 w 2 (bk1 w 1 (bk1 w 0 (pU (dWk B).2 9 (if (dWk B).1 = 10 then 0 else (dWk B).1))))) = bk (dSea B) (dWait B) (dF B) w (pU (dWk B).2 9 (if (dWk B).1 = 10 then 0 else (dWk B).1)) := by
    intro w hw
    refine bk_4 (fun s hs => by rw [pU_n (by omega)]; exact w1 s hs) (fun s hs hn => by rw [pU_n (by omega)]; exact w2 s hs hn) (fun s hs => (hsh s hs).2.2.2.1) (wOne_o hwf.2.2) (fun q => ⟨dF_lt q, by rw [pU_n (by omega), hw]; exact w3 q⟩) (fun q => ?_)
    have hd4 : dF B = 4 := by have := dF_le B; omega
    rw [hw]
    unfold dWk
    rw [if_pos hd4]
    show dWts (if (if B 7 = B 4 then (0 : Int32) else 6) = 10 then 0 else (if B 7 = B 4 then (0 : Int32) else 6)) = false
    by_cases q : B 7 = B 4
    · simp only [q, ↓reduceIte]; decide
    · simp only [q, ↓reduceIte]; decide
  have s9 := sums _ rfl
  by_cases q : B 7 = B 4
  · rw [if_neg (fun x => x q), bnd_e]
    have g := RC_h Tu_T (j := 11) (i := 9) (v := 0) (by decide) hN
    have k := c_58 (F := F) g (wTm_up hB.2.1 (by decide)) (by omega)
    rw [pU_s] at k
    obtain ⟨M', p1, p2, p3⟩ := k
    refine ⟨M', p1, fr_t (fr_w (by omega)) p2, ?_⟩
    have e1 : (dWk B).1 = 0 := by rw [hfin q]
    have e2 : (dWk B).2 = B := by rw [hfin q]
    rw [e1, e2, if_neg (show ¬ (0 : Int32) = 10 by decide)] at s9
    rw [e1, e2, if_neg (show ¬ (0 : Int32) = 10 by decide)]
    rw [s9] at p3
    unfold dEnd
    dsimp only
    rw [if_neg (show ¬ (0 : Int32) = 10 by decide), dRest_n (by decide), bk_n (by decide) (by decide)]
    exact p3
  · rw [if_pos q]
    obtain ⟨M3, x1, x2, x3, x4⟩ := c_work (F := F) hN hB hK q hF
    rw [x1, cal_s, bnd_e]
    generalize dWk B = W at *
    by_cases r10 : W.1 = 10
    · have g := RC_h Tu_d (j := 11) (i := 9) (v := if W.1 = 10 then 0 else W.1) (by decide) (x4 r10)
      have h11 : W.2 11 = 0 := by
        by_cases h10 : W.2 10 = 2
        · exact (hKw.2.2.2.2.1 h10).1 r10
        · exact hKw.2.2.1.2.2.2.2.2.2.2.2.1 h10
      have k := c_58d (F := F) g (wTm_up hKw.2.1 (by decide)) (by rw [pU_n (by decide)]; exact h11) (by omega)
      rw [pU_s, s9] at k
      obtain ⟨M', p1, p2, p3⟩ := k
      refine ⟨M', p1, fr_t x2 (fr_t (fr_w (by omega)) p2), ?_⟩
      rw [show dEnd W.1 = dEnd 10 from by rw [r10]]
      exact p3
    · have g := RC_h Tu_T (j := 11) (i := 9) (v := if W.1 = 10 then 0 else W.1) (by decide) (x3 r10)
      have k := c_58 (F := F) g (wTm_up hKw.2.1 (by decide)) (by omega)
      rw [pU_s, s9] at k
      obtain ⟨M', p1, p2, p3⟩ := k
      refine ⟨M', p1, fr_t x2 (fr_t (fr_w (by omega)) p2), ?_⟩
      unfold dEnd
      dsimp only
      rw [if_neg r10, dRest_n (by decide), bk_n (by decide) (by decide)]
      exact p3
end
