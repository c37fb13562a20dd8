section
variable {F a b r K : Nat} {M N : zMi} {A B : Pg} {R0 R1 : Pg}
theorem dHome_3 {s : Nat} {d : Int32} (h3 : B (59 + 8 * s + 5) = 3) : dHome B s d = pU (pU (pU (pU B 10 0) 11 0) (59 + 8 * s + 5) 4) (59 + 8 * s + 6) d := by
  unfold dHome
  dsimp only
  rw [if_pos h3, pU_s, if_neg (show ¬ (0 : Int32) = 2 by decide)]
theorem c_15 {s : Nat} (h : RC M a A) (hs : s < 4) (hle : A 7 ≤ A 4) : ∃ M', f_X5_callHome_15 F a (a + 17 + s) M = some M' ∧ fr a M M' ∧ RC M' a (pU (pU A (59 + 8 * s + 5) 4) (59 + 8 * s + 6) (dWay A)) := by
  have g : ∀ d, ∃ M', f_X3_sail F (a + 17 + s) 4 d M = some M' ∧ fr a M M' ∧ RC M' a (pU (pU A (59 + 8 * s + 5) 4) (59 + 8 * s + 6) d) := fun d =>
    ⟨_, rfl, fr_t (fr_w (by omega)) (fr_w (by omega)), RC_sh Tu_T hs (by decide) (RC_sh Tu_T hs (by decide) h)⟩
  unfold f_X5_callHome_15 dWay
  rw [c_isFin h, cal_s, h.1.2.2.2.2.1, h.1.1]
  by_cases q : A 7 = A 4
  · obtain ⟨M', k1, k2, k3⟩ := g (A 4)
    rw [if_neg (show ¬ ((if A 7 < A 4 then (0 : Int32) else 1) = 0) by rw [q, if_neg Int32.lt_irrefl]; decide), if_pos q, k1, cal_s]
    exact ⟨M', rfl, k2, k3⟩
  · obtain ⟨M', k1, k2, k3⟩ := g (A 7 + 1)
    have hlt : A 7 < A 4 := by grind
    rw [if_pos (show ((if A 7 < A 4 then (0 : Int32) else 1) = 0) by rw [if_pos hlt]), if_neg q, k1, cal_s]
    exact ⟨M', rfl, k2, k3⟩
/-- a team at the front comes to rest at a recall -/
theorem rT_leave (ht : wTm A) (h10 : A 10 = 2) {i : Nat} (i1 : i < 3) (i2 : nI i < A 0) (i4 : R1 i = 0) (t1 : R0 0 = A 0) (t2 : R0 1 = A 1) (t4 : R0 6 = A 12) (t8 : rRs R1 A) (x3 : R0 3 = 0) (x4 : R0 4 = -9) (x5 : R0 5 = 0) : rT R0 (pU R1 i 2) (pU (pU (dRestOn A) 10 0) 11 0) := by
  obtain ⟨n, hn3, hn⟩ : ∃ n, (n = 1 ∨ n = 2 ∨ n = 3) ∧ A 0 = nI n := by
    rcases ht.1 with q | q | q
    · exact ⟨1, Or.inl rfl, q⟩
    · exact ⟨2, Or.inr (Or.inl rfl), q⟩
    · exact ⟨3, Or.inr (Or.inr rfl), q⟩
  have hin : i < n := by
    rw [hn] at i2
    exact (nI_ltI (by omega) (by omega)).mp i2
  obtain ⟨r, n0, n1⟩ := t8
  have e : pU (pU R1 i 2) i 0 = R1 := by rw [pU_u, ← i4, pU_i]
  have ha : ∀ j, j < 3 → n ≤ j → pU R1 i 2 j = 0 := fun j hj hnj => by
    rw [pU_n (by omega)]
    exact (r j hj).2 (by rw [hn]; exact nI_nlt hnj (by omega))
  obtain ⟨p1, p2, p3⟩ := rO_cls (R1 := pU R1 i 2) hin hn3 pU_s ha
  rw [e] at p1 p2 p3
  have g := rO_page ht hn hn3 (by rw [← n0]; exact p1)
  rw [← n0, ← n1] at g
  have z : ∀ k, k ≠ 10 → k ≠ 11 → pU (pU (dRestOn A) 10 0) 11 0 k = dRestOn A k := fun k a b => by rw [pU_n b, pU_n a]
  have z10 : pU (pU (dRestOn A) 10 0) 11 0 10 = 0 := by rw [pU_n (by decide), pU_s]
  refine ⟨by rw [z 0 (by decide) (by decide), dRestOn_n (by decide)]; exact t1, by rw [z 1 (by decide) (by decide), dRestOn_n (by decide)]; exact t2, by rw [pU_s]; exact x5, by rw [z 12 (by decide) (by decide), dRestOn_n (by decide)]; exact t4, by rw [z10]; exact x3, fun _ => x4, fun x => ?_, fun j hj => ?_, ?_, ?_⟩
  · rw [z10] at x; exact absurd x (by decide)
  · rw [z 0 (by decide) (by decide), dRestOn_n (by decide)]
    by_cases q : j = i
    · subst q; rw [pU_s]; exact ⟨Or.inr (Or.inr rfl), fun x => absurd i2 x⟩
    · rw [pU_n q]; exact r j hj
  · rw [z 13 (by decide) (by decide), z 14 (by decide) (by decide), z 15 (by decide) (by decide)]; omega
  · rw [z 13 (by decide) (by decide), z 14 (by decide) (by decide), z 15 (by decide) (by decide)]; omega
theorem c_recall {s : Nat} (h : RC M a A) (hA : WF K A) (hs : s < 4) (hw : A (59 + 8 * s + 5) = 2 ∨ A (59 + 8 * s + 5) = 3) : ∃ M', f_X5_callHome F a (a + 17 + s) M = some M' ∧ fr a M M' ∧ RC M' a (dRecall s A) := by
  have hle := hA.2.2.1.2.2.2.2.2.1.2
  have q9 := hA.2.2.1.2.2.2.2.2.2.2.2.1
  have q8 := hA.2.2.1.2.2.2.2.2.2.2.1
  unfold f_X5_callHome dRecall
  rw [RC_s h hs (by decide)]
  rcases hw with hw | hw
  · rw [if_neg (by rw [hw]; decide), if_neg (fun x => by rw [hw] at x; exact absurd x.1 (by decide))]
    have e : dHome A s (dWay A) = pU (pU A (59 + 8 * s + 5) 4) (59 + 8 * s + 6) (dWay A) := by
      unfold dHome
      dsimp only
      rw [if_neg (show ¬ A (59 + 8 * s + 5) = 3 by rw [hw]; decide), pU_i]
      have e11 : (if A 10 = 2 then A 11 else 0) = A 11 := by
        by_cases k : A 10 = 2
        · rw [if_pos k]
        · rw [if_neg k, q9 k]
      rw [e11, pU_i]
    rw [e]
    exact c_15 h hs hle
  · rw [if_pos hw]
    obtain ⟨t1, t2, t3, t4, t5, t6, t7, t8⟩ := h.2.2.2.1
    unfold f_X6_leaveFront f_X6_sendToRest
    rw [bnd_e, show wI M (a + 5) 3 0 (a + 5) 4 = M (a + 5) 4 from by simp [wI]]
    by_cases k : A 10 = 2
    · obtain ⟨i, i1, i2, i3, i4⟩ := t7 k
      rw [if_pos (show A (59 + 8 * s + 5) = 3 ∧ A 10 = 2 from ⟨hw, k⟩), i3, if_neg (nI_pos (by omega)), if_pos (show nI i < 3 from nI_lt (b := 3) i1 (by decide)), inbN i1 (by decide), grd_t, ixN (by omega)]
      simp only [bnd_e, cal_s]
      have g : RC (wI (wI (wI (wI M (a + 5) 3 0) (a + 5 + 1) i 2) (a + 5) 4 (-9)) (a + 5) 5 0) a (pU (pU (dRestOn A) 10 0) 11 0) := by
        refine RC_tm h (fun j x y z => by rw [pU_n (by omega), pU_n (by omega), dRestOn_n (by omega)]) (fun q x y => by rw [wI_ne x, wI_ne x, wI_ne (show q ≠ a + 5 + 1 from y), wI_ne x]) ?_
        have er : wI (wI (wI (wI M (a + 5) 3 0) (a + 5 + 1) i 2) (a + 5) 4 (-9)) (a + 5) 5 0 (a + 6) = pU (M (a + 6)) i 2 := by
          funext j
          unfold pU
          by_cases q : j = i
          · subst q; simp [wI]
          · rw [if_neg q]; simp [wI, q]
        rw [er]
        exact rT_leave hA.2.1 k i1 i2 i4 (by simpa [wI] using t1) (by simpa [wI] using t2) (by simpa [wI] using t4) t8 (by simp [wI]) (by simp [wI]) (by simp [wI])
      have fg : fr a M (wI (wI (wI (wI M (a + 5) 3 0) (a + 5 + 1) i 2) (a + 5) 4 (-9)) (a + 5) 5 0) := fr_t (fr_t (fr_t (fr_w (by omega)) (fr_w (by omega))) (fr_w (by omega))) (fr_w (by omega))
      obtain ⟨M', k1, k2, k3⟩ := c_15 (F := F) g hs (by rw [pU_n (by decide), pU_n (by decide), pU_n (by decide), pU_n (by decide), dRestOn_n (by decide), dRestOn_n (by decide)]; exact hle)
      refine ⟨M', k1, fr_t fg k2, ?_⟩
      rw [dHome_3 (by rw [dRestOn_n (by omega)]; exact hw)]
      have ew : dWay (pU (pU (dRestOn A) 10 0) 11 0) = dWay A := by
        unfold dWay; rw [pU_n (by decide), pU_n (by decide), pU_n (by decide), pU_n (by decide), dRestOn_n (by decide), dRestOn_n (by decide)]
      rw [ew] at k3
      exact k3
    · have x4 := t6 k
      rw [if_neg (show ¬ (A (59 + 8 * s + 5) = 3 ∧ A 10 = 2) from fun x => k x.2), x4, if_pos (show (-9 : Int32) < 0 by decide)]
      simp only [bnd_e, cal_s]
      have g : RC (wI (wI (wI M (a + 5) 3 0) (a + 5) 4 (-9)) (a + 5) 5 0) a (pU (pU A 10 0) 11 0) := by
        refine RC_tm h (fun j x y z => by rw [pU_n (by omega), pU_n (by omega)]) (fun q x y => by rw [wI_ne x, wI_ne x, wI_ne x]) ?_
        rw [show wI (wI (wI M (a + 5) 3 0) (a + 5) 4 (-9)) (a + 5) 5 0 (a + 6) = M (a + 6) from by rw [wI_ne (by omega), wI_ne (by omega), wI_ne (by omega)]]
        unfold rT rRs
        rw [pU_s, pU_n (by decide : 0 ≠ 11), pU_n (by decide : 0 ≠ 10), pU_n (by decide : 1 ≠ 11), pU_n (by decide : 1 ≠ 10), pU_n (by decide : 12 ≠ 11), pU_n (by decide : 12 ≠ 10), pU_n (by decide : 10 ≠ 11), pU_s, pU_n (by decide : 13 ≠ 11), pU_n (by decide : 13 ≠ 10), pU_n (by decide : 14 ≠ 11), pU_n (by decide : 14 ≠ 10), pU_n (by decide : 15 ≠ 11), pU_n (by decide : 15 ≠ 10)]
        exact ⟨by simpa [wI] using t1, by simpa [wI] using t2, by simp [wI], by simpa [wI] using t4, by simp [wI], fun _ => by simp [wI], fun x => absurd x (by decide), t8⟩
      have fg : fr a M (wI (wI (wI M (a + 5) 3 0) (a + 5) 4 (-9)) (a + 5) 5 0) := fr_t (fr_t (fr_w (by omega)) (fr_w (by omega))) (fr_w (by omega))
      obtain ⟨M', k1, k2, k3⟩ := c_15 (F := F) g hs (by rw [pU_n (by decide), pU_n (by decide), pU_n (by decide), pU_n (by decide)]; exact hle)
      refine ⟨M', k1, fr_t fg k2, ?_⟩
      rw [dHome_3 hw]
      have ew : dWay (pU (pU A 10 0) 11 0) = dWay A := by
        unfold dWay; rw [pU_n (by decide), pU_n (by decide), pU_n (by decide), pU_n (by decide)]
      rw [ew] at k3
      exact k3
end
