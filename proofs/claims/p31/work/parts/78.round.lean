section
variable {F a b r K : Nat} {M N : zMi} {A B : Pg}
theorem c_change {i w : Nat} {v : Int32} (h : RC M a A) (hi : i < w) (hw : w ≤ 30) (h6 : A 6 = nI w) : ∃ M', f_X8_change F (a + 3) (nI i) v M = some (A (91 + i), M') ∧ fr a M M' ∧ RC M' a (pU A (91 + i) v) := by
  unfold f_X8_change
  rw [h.2.2.1.1, h6, if_neg (nI_pos (by omega)), if_pos (nI_lt hi (by omega)), if_pos (show nI i < 30 from nI_lt (b := 30) (by omega) (by decide)), inbN (by omega) (by decide), grd_t, ixN (by omega), bnd_e, grd_t, bnd_e, show a + 3 + 1 = a + 4 from rfl, h.2.2.1.2 i (by omega) (by rw [h6]; exact nI_lt hi (by omega))]
  exact ⟨_, rfl, fr_w (by omega), RC_wv Tu_T (by omega) h⟩
/-- what a round of a simulation does before its day -/
noncomputable def dPre (q : Nat) (A : Pg) : Pg :=
  if q % 8 = 0 then pU A (91 + q / 64 % ix (A 6)) (nI (q / 2048 % 10))
  else if q % 8 < 3 then (if A (59 + 8 * (q / 8 % ix (A 5)) + 5) = 0 ∧ A 7 ≠ A 4 then dFill (q / 8 % ix (A 5)) A else A)
  else A
theorem wFl_N (h : wFl A) : ∃ f, 0 < f ∧ f ≤ 4 ∧ A 5 = nI f := by
  rcases h.1 with q | q | q | q
  · exact ⟨1, by decide, by decide, q⟩
  · exact ⟨2, by decide, by decide, q⟩
  · exact ⟨3, by decide, by decide, q⟩
  · exact ⟨4, by decide, by decide, q⟩
theorem WF_6 (hA : WF K A) : ∃ w, 0 < w ∧ w ≤ 30 ∧ A 6 = nI w := by
  have q5 := hA.2.2.1.2.2.2.2.1
  obtain ⟨w, hw1, hw2⟩ := exN (n := 30) (x := A 6) (by grind) q5.2 (by decide)
  refine ⟨w, ?_, hw1, hw2⟩
  apply Nat.pos_of_ne_zero
  rintro rfl
  rw [nI_0] at hw2
  grind
theorem WF_pre {q : Nat} (hA : WF K A) : WF K (dPre q A) := by
  obtain ⟨f, f0, f4, hf⟩ := wFl_N hA.1
  have hm : q / 8 % ix (A 5) < f := by rw [hf, ixN (by omega)]; exact Nat.mod_lt _ f0
  unfold dPre
  by_cases k0 : q % 8 = 0
  · rw [if_pos k0]; exact WF_wv hA
  · rw [if_neg k0]
    by_cases k1 : q % 8 < 3
    · rw [if_pos k1]
      by_cases k2 : A (59 + 8 * (q / 8 % ix (A 5)) + 5) = 0 ∧ A 7 ≠ A 4
      · rw [if_pos k2]; exact WF_fill hA (by omega) (by rw [hf] at hm ⊢; exact nI_lt hm (by omega)) k2.1
      · rw [if_neg k2]; exact hA
    · rw [if_neg k1]; exact hA
theorem c_round {q : Nat} (hq : q < 2147483648) (h : RC M a A) (hA : WF K A) (hK : K < 900000000) (hF : 101 ≤ F) : ∃ M', f_X5_playRound F a (nI q) M = some M' ∧ fr a M M' ∧ RC M' a (dDay (dPre q A)) := by
  obtain ⟨f, f0, f4, hf⟩ := wFl_N hA.1
  obtain ⟨w, w0, w1, hw⟩ := WF_6 hA
  have hP := WF_pre (q := q) hA
  have m8 : nI q - nI q / 8 * 8 = nI (q % 8) := pk_rem (d := 8) hq (by decide) (by decide)
  have m10 : nI q / 2048 - nI q / 2048 / 10 * 10 = nI (q / 2048 % 10) := by
    rw [show nI q / 2048 = nI (q / 2048) from pk_div (d := 2048) hq (by decide) (by decide)]
    exact pk_rem (d := 10) (by omega) (by decide) (by decide)
  have mw : nI q / 64 - nI q / 64 / nI w * nI w = nI (q / 64 % w) := by
    rw [show nI q / 64 = nI (q / 64) from pk_div (d := 64) hq (by decide) (by decide)]
    exact pk_rem (by omega) w0 (by omega)
  have mf : nI q / 8 - nI q / 8 / nI f * nI f = nI (q / 8 % f) := by
    rw [show nI q / 8 = nI (q / 8) from pk_div (d := 8) hq (by decide) (by decide)]
    exact pk_rem (by omega) f0 (by omega)
  have hmw : q / 64 % w < w := Nat.mod_lt _ w0
  have hmf : q / 8 % f < f := Nat.mod_lt _ f0
  have hw0 : ¬ nI w = 0 := nI_ne0 w0 (by omega)
  have hf0 : ¬ nI f = 0 := nI_ne0 f0 (by omega)
  have g1 : ∀ k : Option zMi, grd (!decide (nI w = 0)) k = k := fun k => by simp [grd, hw0]
  have g2 : ∀ k : Option zMi, grd (!decide (nI f = 0)) k = k := fun k => by simp [grd, hf0]
  have e5 : M a 6 = nI f := h.1.2.1.trans hf
  have e6 : M (a + 3) 0 = nI w := h.2.2.1.1.trans hw
  unfold f_X5_playRound
  rw [if_neg (nI_pos hq), e5, e6, if_pos (show (0 : Int32) < nI f from nI_lt (a := 0) f0 (by omega)), if_pos (show (0 : Int32) < nI w from nI_lt (a := 0) w0 (by omega)), bnd_e, m8, m10, mw, mf, g1, g2]
  unfold dPre at hP ⊢
  rw [hf, hw, ixN (by omega), ixN (by omega)] at hP ⊢
  by_cases k0 : q % 8 = 0
  · rw [if_pos k0] at hP ⊢
    rw [if_pos (show nI (q % 8) = 0 from by rw [k0]; rfl)]
    obtain ⟨M1, a1, b1, c1⟩ := c_change (F := F) (v := nI (q / 2048 % 10)) h hmw w1 hw
    obtain ⟨M2, a2, b2, c2⟩ := c_day (F := F) c1 hP (by omega) hF
    rw [a1, cal_s, a2, cal_s]
    exact ⟨M2, rfl, fr_t b1 b2, c2⟩
  · rw [if_neg k0] at hP ⊢
    rw [if_neg (show ¬ nI (q % 8) = 0 from nI_ne0 (by omega) (by omega))]
    by_cases k1 : q % 8 < 3
    · rw [if_pos k1] at hP ⊢
      rw [if_neg (show ¬ (2 : Int32) < nI (q % 8) from nI_nlt (a := 2) (by omega) (by decide))]
      obtain ⟨M1, a1, b1, c1⟩ := c_fill (F := F) h hA (s := q / 8 % f) (by omega) (by rw [hf]; exact nI_lt hmf (by omega))
      obtain ⟨M2, a2, b2, c2⟩ := c_day (F := F) c1 hP (by omega) hF
      rw [a1, cal_s, a2, cal_s]
      exact ⟨M2, rfl, fr_t b1 b2, c2⟩
    · rw [if_neg k1] at hP ⊢
      rw [if_pos (show (2 : Int32) < nI (q % 8) from nI_lt (a := 2) (by omega) (by omega))]
      obtain ⟨M2, a2, b2, c2⟩ := c_day (F := F) h hP (by omega) hF
      rw [a2, cal_s]
      exact ⟨M2, rfl, b2, c2⟩
end
