section
variable {K : Nat} {A B : Pg} {s k : Nat} {u v d : Int32}
theorem SD_sail1 (h : SD K A) (hs : s < 4) : SD K (dSail1 s A) := by
  refine SD_dl h (fun k _ ks => dSail1_n (ks s hs).1 (ks s hs).2) (fun t ht => ?_)
  by_cases e : t = s
  · subst e
    obtain ⟨g1, g2⟩ := h.2.2.1 t ht
    unfold dSail1
    by_cases c : A (59 + 8 * t + 5) = 1 ∨ A (59 + 8 * t + 5) = 4
    · have g := g1 c
      rw [if_pos c]
      by_cases c2 : A (59 + 8 * t + 6) - 1 = 0
      · rw [if_pos c2]
        by_cases c3 : A (59 + 8 * t + 5) = 1
        · rw [if_pos c3]
          unfold sDl
          rw [pU_s, pU_n (by omega), pU_s, c2]
          exact ⟨fun y => by rcases y with y | y <;> exact absurd y (by decide), fun _ _ => rfl⟩
        · rw [if_neg c3]
          unfold sDl
          rw [pU_s, pU_n (by omega), pU_s, c2]
          exact ⟨fun y => by rcases y with y | y <;> exact absurd y (by decide), fun _ _ => rfl⟩
      · rw [if_neg c2]
        unfold sDl
        rw [pU_s, pU_n (by omega)]
        exact ⟨fun _ => by grind, fun y1 y2 => by rcases c with c | c <;> contradiction⟩
    · rw [if_neg c]; exact ⟨g1, g2⟩
  · exact sDl_cg (h.2.2.1 t ht) (dSail1_n (by omega) (by omega)) (dSail1_n (by omega) (by omega))
theorem SD_sail (h : SD K A) : SD K (dSail A) := SD_sail1 (SD_sail1 (SD_sail1 (SD_sail1 h (by decide)) (by decide)) (by decide)) (by decide)
theorem SD_come1 (h : SD K A) (hs : s < 4) (h2 : A (59 + 8 * s + 5) = 2) : SD K (dCome1 s A) := by
  refine SD_dl h (fun k hk ks => dCome1_n (ks s hs).1 (by unfold rel rel0 at hk; omega)) (fun t ht => ?_)
  by_cases e : t = s
  · subst e
    have e5 : dCome1 t A (59 + 8 * t + 5) = 3 := by unfold dCome1; rw [pU_n (by omega), pU_s]
    have e6 : dCome1 t A (59 + 8 * t + 6) = A (59 + 8 * t + 6) := dCome1_n (by omega) (by omega)
    have g := (h.2.2.1 t ht).2 (by rw [h2]; decide) (by rw [h2]; decide)
    unfold sDl; rw [e5, e6, g]
    exact ⟨fun y => by rcases y with y | y <;> exact absurd y (by decide), fun _ _ => rfl⟩
  · exact sDl_cg (h.2.2.1 t ht) (dCome1_n (by omega) (by omega)) (dCome1_n (by omega) (by omega))
theorem SD_come (h : SD K A) : SD K (dCome A) := by
  unfold dCome
  split
  · split
    · rename_i c; exact SD_come1 (s := 0) h (by decide) c
    · split
      · rename_i c; exact SD_come1 (s := 1) h (by decide) c
      · split
        · rename_i c; exact SD_come1 (s := 2) h (by decide) c
        · split
          · rename_i c; exact SD_come1 (s := 3) h (by decide) c
          · exact h
  · exact h
theorem SD_laid (h : SD K A) (hs : s < 4) : SD K (dLaid A s u) := by
  refine SD_acc h (fun k _ _ _ k8 _ k17 k18 ks => dLaid_n (ks s hs).1 (ks s hs).2 k17 k18 k8) ?_
  obtain ⟨a1, a2, a3⟩ := h.2.2.2.1
  unfold dLaid
  (try dsimp only)
  generalize dNeed A (ix (A 7)) u = w
  refine ⟨?_, ?_, ?_⟩
  · rw [dAb_n (by omega), dAb_n (by omega), dAb_n (by omega), dAb_n (by omega), dAb_s hs]
    simp (disch := omega) only [pU_s, pU_n, Nat.reduceEqDiff, ne_eq, not_false_eq_true]
    grind
  · rw [dOwn_n (by omega), dOwn_n (by omega), dOwn_n (by omega), dOwn_s hs, dOwn_n (by omega)]
    simp (disch := omega) only [pU_s, pU_n, Nat.reduceEqDiff, ne_eq, not_false_eq_true]
    grind
  · rw [dLen_8, dLen_n (by omega), dLen_n (by omega), dLen_n (by omega), dLen_n (by omega)]
    simp (disch := omega) only [pU_s, pU_n, Nat.reduceEqDiff, ne_eq, not_false_eq_true]
    grind
theorem SD_step (h : SD K A) (h4 : A 4 ≤ 4) (h7 : 0 ≤ A 7 ∧ A 7 < A 4) (h8 : A 8 = A (23 + 4 * ix (A 7))) : SD K (pU (pU A 7 (A 7 + 1)) 8 0) := by
  refine SD_acc h (fun k _ _ k7 k8 _ _ _ _ => by rw [pU_n k8, pU_n k7]) ?_
  obtain ⟨a1, a2, a3⟩ := h.2.2.2.1
  refine ⟨?_, ?_, ?_⟩
  · rw [dAb_n (by omega), dAb_n (by omega), pU_n (by omega), pU_n (by omega), pU_n (by omega), pU_n (by omega), pU_n (by omega), pU_n (by omega), pU_n (by omega), pU_n (by omega)]; exact a1
  · rw [dOwn_n (by omega), dOwn_n (by omega), pU_n (by omega), pU_n (by omega)]; exact a2
  · have hz : ∃ z, z < 4 ∧ A 7 = nI z := by
      obtain ⟨z, z1, z2⟩ := exN (n := 3) (x := A 7) h7.1 (by show A 7 ≤ 3; grind) (by decide)
      exact ⟨z, by omega, z2⟩
    obtain ⟨z, z4, e7⟩ := hz
    rw [e7, ixN (by omega)] at h8
    rw [dLen_8, pU_n (by omega), pU_n (by omega), pU_n (by omega), ← a3]
    unfold dLen
    rw [pU_s, pU_n (by omega), pU_n (by omega), pU_n (by omega), pU_n (by omega), pU_n (by omega), e7]
    have c : z = 0 ∨ z = 1 ∨ z = 2 ∨ z = 3 := by omega
    rcases c with rfl | rfl | rfl | rfl <;> simp (decide := true) only [↓reduceIte] <;> simp only [Nat.reduceMul, Nat.reduceAdd] at h8 <;> grind
theorem SD_lay (hA : WF K A) (h : SD K A) (hs : s < 4) (h7 : A 7 ≠ A 4) : SD K (dLay A s).2 := by
  have w := dWay_1 hA
  have q7 := hA.2.2.1.2.2.2.2.2.1
  unfold dLay
  split
  · exact SD_home h hs w
  · have hL := SD_laid (u := dLayU A s) h hs
    dsimp only
    split
    · rename_i c8
      have e7 : dLaid A s (dLayU A s) 7 = A 7 := dLaid_n (by omega) (by omega) (by omega) (by omega) (by omega)
      have e4 : dLaid A s (dLayU A s) 4 = A 4 := dLaid_n (by omega) (by omega) (by omega) (by omega) (by omega)
      have hix : ix (A 7) ≤ 4 := by
        have := h.1
        obtain ⟨z, z1, z2⟩ := exN (n := 4) (x := A 7) q7.1 (by show A 7 ≤ 4; grind) (by decide)
        rw [z2, ixN (by omega)]; exact z1
      have ez : dLaid A s (dLayU A s) (23 + 4 * ix (A 7)) = A (23 + 4 * ix (A 7)) := dLaid_n (by omega) (by omega) (by omega) (by omega) (by omega)
      have hst := SD_step hL (by rw [e4]; exact h.1) (by rw [e7, e4]; exact ⟨q7.1, by grind⟩) (by rw [e7, ez]; exact c8)
      unfold dNext
      (try dsimp only)
      split
      · rename_i c7
        refine SD_home hst hs ?_
        unfold dWay
        rw [if_pos c7, pU_n (by omega), pU_n (by omega), e4]
        exact hA.2.2.1.2.2.2.1.1
      · exact hst
    · exact hL
theorem dNext_sh {j : Nat} (h5 : j ≠ 5) (h6 : j ≠ 6) : dNext A s (59 + 8 * s + j) = A (59 + 8 * s + j) := by
  unfold dNext
  (try dsimp only)
  split
  · rw [dHome_n (by omega) (by omega) (by omega) (by omega), pU_n (by omega), pU_n (by omega)]
  · rw [pU_n (by omega), pU_n (by omega)]
theorem dWork_r3 : (dWork A s).2 (59 + 8 * s + 3) = A (59 + 8 * s + 3) := by
  unfold dWork dLay
  repeat' split
  all_goals dsimp only
  all_goals first
    | rfl
    | (rw [pU_n (by omega)]; done)
    | (rw [pU_n (by omega), pU_n (by omega)]; done)
    | (rw [dHome_n (by omega) (by omega) (by omega) (by omega)]; done)
    | (rw [dNext_sh (by omega) (by omega), dLaid_n (by omega) (by omega) (by omega) (by omega) (by omega)]; done)
    | (rw [dLaid_n (by omega) (by omega) (by omega) (by omega) (by omega)]; done)
theorem SD_work (hA : WF K A) (h : SD K A) (hs : s < 4) (h7 : A 7 ≠ A 4) : SD K (dWork A s).2 := by
  have c11 : ∀ v, SD K (pU A 11 v) := fun v => SD_cg h (fun k hk => pU_n (by unfold rel rel0 at hk; omega))
  have c1011 : ∀ v w, SD K (pU (pU A 10 v) 11 w) := fun v w => SD_cg h (fun k hk => by unfold rel rel0 at hk; rw [pU_n (by omega), pU_n (by omega)])
  unfold dWork
  split
  · split <;> exact c11 _
  · split
    · split
      · exact h
      · split <;> exact c1011 _ _
    · split
      · exact h
      · split
        · exact h
        · split
          · exact h
          · exact SD_lay hA h hs h7
theorem dWork_1 : (dWork A s).1 = 10 ∨ (0 ≤ (dWork A s).1 ∧ (dWork A s).1 ≤ 6) := by
  unfold dWork dLay
  repeat' split
  all_goals dsimp only
  all_goals first | (left; rfl) | (right; exact ⟨by decide, by decide⟩)
theorem dWk_1 : (dWk B).1 = 10 ∨ (0 ≤ (dWk B).1 ∧ (dWk B).1 ≤ 6) := by
  by_cases c : dF B = 4
  · unfold dWk
    rw [if_pos c]
    right
    dsimp only
    split <;> exact ⟨by decide, by decide⟩
  · rw [dWk_n4 c]; exact dWork_1
/-- what a ship costs in a day: at sea, waiting -/
theorem cs_le {w r : Int32} (h0 : 0 ≤ w) (hr : 0 ≤ r) : 0 ≤ (if w = 2 then r else 0) ∧ (if w = 2 then r else 0) ≤ (if 0 < w then r else 0) ∧ (if 0 < w then r else 0) ≤ r ∧ (w = 3 → (if w = 2 then r else 0) = 0 ∧ (if 0 < w then r else 0) = r) := by
  by_cases c : w = 2
  · subst c
    rw [if_pos rfl, if_pos (by decide)]
    exact ⟨hr, by grind, by grind, fun y => absurd y (by decide)⟩
  · rw [if_neg c]
    by_cases c2 : 0 < w
    · rw [if_pos c2]; exact ⟨by grind, hr, by grind, fun _ => ⟨rfl, rfl⟩⟩
    · rw [if_neg c2]; exact ⟨by grind, by grind, hr, fun y => by subst y; exact absurd (by decide) c2⟩
theorem rate_b (hA : WF K A) (h : SD K A) (hs : s < 4) : 0 ≤ A (59 + 8 * s + 3) ∧ A (59 + 8 * s + 3) ≤ 99 := by
  by_cases c : nI s < A 5
  · exact (h.2.1 s hs c).2.2
  · have := hA.1.2 s hs c 3 (by decide)
    rw [this]; decide
theorem cost_le (hA : WF K A) (h : SD K A) {x : Int32} (hx : x = 0 ∨ (dF A ≠ 4 ∧ x = A (59 + 8 * dF A + 3))) : 0 ≤ dWait A + x ∧ dWait A + x ≤ dSea A ∧ dSea A ≤ 396 := by
  have w := fun s (hs : s < 4) => (hA.2.2.2.2.2.2.2 s hs).2.2.2
  have r := fun s (hs : s < 4) => rate_b hA h hs
  have w0 := w 0 (by decide)
  have w1 := w 1 (by decide)
  have w2 := w 2 (by decide)
  have w3 := w 3 (by decide)
  have r0 := r 0 (by decide)
  have r1 := r 1 (by decide)
  have r2 := r 2 (by decide)
  have r3 := r 3 (by decide)
  simp only [Nat.reduceMul, Nat.reduceAdd] at w0 w1 w2 w3 r0 r1 r2 r3
  have c0 := cs_le w0.1 r0.1
  have c1 := cs_le w1.1 r1.1
  have c2 := cs_le w2.1 r2.1
  have c3 := cs_le w3.1 r3.1
  unfold dWait dSea
  generalize (if A 64 = 2 then A 62 else 0) = a0 at *
  generalize (if A 72 = 2 then A 70 else 0) = a1 at *
  generalize (if A 80 = 2 then A 78 else 0) = a2 at *
  generalize (if A 88 = 2 then A 86 else 0) = a3 at *
  generalize (if 0 < A 64 then A 62 else 0) = b0 at *
  generalize (if 0 < A 72 then A 70 else 0) = b1 at *
  generalize (if 0 < A 80 then A 78 else 0) = b2 at *
  generalize (if 0 < A 88 then A 86 else 0) = b3 at *
  obtain ⟨c01, c02, c03, c04⟩ := c0
  obtain ⟨c11, c12, c13, c14⟩ := c1
  obtain ⟨c21, c22, c23, c24⟩ := c2
  obtain ⟨c31, c32, c33, c34⟩ := c3
  rcases hx with rfl | ⟨hd, hx⟩
  · clear c04 c14 c24 c34
    refine ⟨by grind, by grind, by grind⟩
  · have f4 : dF A = 0 ∨ dF A = 1 ∨ dF A = 2 ∨ dF A = 3 := by have := dF_le A; omega
    have h3 := dF_at hd
    rcases f4 with e | e | e | e
    · rw [e] at hx h3
      simp only [Nat.reduceMul, Nat.reduceAdd] at hx h3
      obtain ⟨d1, d2⟩ := c04 h3
      clear c04 c14 c24 c34
      refine ⟨by grind, by grind, by grind⟩
    · rw [e] at hx h3
      simp only [Nat.reduceMul, Nat.reduceAdd] at hx h3
      obtain ⟨d1, d2⟩ := c14 h3
      clear c04 c14 c24 c34
      refine ⟨by grind, by grind, by grind⟩
    · rw [e] at hx h3
      simp only [Nat.reduceMul, Nat.reduceAdd] at hx h3
      obtain ⟨d1, d2⟩ := c24 h3
      clear c04 c14 c24 c34
      refine ⟨by grind, by grind, by grind⟩
    · rw [e] at hx h3
      simp only [Nat.reduceMul, Nat.reduceAdd] at hx h3
      obtain ⟨d1, d2⟩ := c34 h3
      clear c04 c14 c24 c34
      refine ⟨by grind, by grind, by grind⟩
/-- the costs that a day books, by the page behind its first two parts -/
theorem dBook_19 {f : Nat} {rc : Int32 × Pg} : dBook B f rc 19 = rc.2 19 + dSea B := by
  unfold dBook
  (try dsimp only)
  rw [pU_n (by decide), pU_s, pU_n (by decide)]
theorem dBook_9 {f : Nat} {rc : Int32 × Pg} : dBook B f rc 9 = (if rc.1 = 10 then 0 else rc.1) := by
  unfold dBook
  (try dsimp only)
  rw [pU_n (by decide), pU_n (by decide), pU_s]
theorem dBook_20 {f : Nat} {rc : Int32 × Pg} (hf : f ≤ 4) : dBook B f rc 20 = rc.2 20 + (dWait B + (if dWts (if rc.1 = 10 then 0 else rc.1) = true then rc.2 (59 + 8 * f + 3) else 0)) := by
  unfold dBook
  (try dsimp only)
  rw [pU_s, pU_n (by decide), pU_n (by decide), pU_n (by decide), pU_s, pU_n (by omega), pU_n (by omega)]
theorem SD_book {f : Nat} {rc : Int32 × Pg} {K' : Nat} (hf : f ≤ 4) (h : SD K rc.2) (h9 : rc.1 = 10 ∨ (0 ≤ rc.1 ∧ rc.1 ≤ 6)) (hK : K' < 2000000) (hc : ∀ x y, x = dSea B → y = dWait B + (if dWts (if rc.1 = 10 then 0 else rc.1) = true then rc.2 (59 + 8 * f + 3) else 0) → sCo K' (pU (pU rc.2 19 (rc.2 19 + x)) 20 (rc.2 20 + y))) : SD K' (dBook B f rc) := by
  have e : ∀ k, k ≠ 9 → k ≠ 19 → k ≠ 20 → dBook B f rc k = rc.2 k := fun k a b c => dBook_k a b c
  refine ⟨?_, fun s hs => ?_, fun s hs => ?_, ?_, ?_, ?_⟩
  · rw [e 4 (by omega) (by omega) (by omega)]; exact h.1
  · exact sSh_cg hs (h.2.1 s hs) (e 5 (by omega) (by omega) (by omega)) (fun k hk => e _ (by omega) (by omega) (by omega))
  · exact sDl_cg (h.2.2.1 s hs) (e _ (by omega) (by omega) (by omega)) (e _ (by omega) (by omega) (by omega))
  · have a := h.2.2.2.1
    unfold sAc dAb dOwn dLen at *
    rw [e 16 (by omega) (by omega) (by omega), e 2 (by omega) (by omega) (by omega), e 17 (by omega) (by omega) (by omega), e 18 (by omega) (by omega) (by omega), e 63 (by omega) (by omega) (by omega), e 71 (by omega) (by omega) (by omega), e 79 (by omega) (by omega) (by omega), e 87 (by omega) (by omega) (by omega), e 66 (by omega) (by omega) (by omega), e 74 (by omega) (by omega) (by omega), e 82 (by omega) (by omega) (by omega), e 90 (by omega) (by omega) (by omega), e 7 (by omega) (by omega) (by omega), e 8 (by omega) (by omega) (by omega), e 23 (by omega) (by omega) (by omega), e 27 (by omega) (by omega) (by omega), e 31 (by omega) (by omega) (by omega), e 35 (by omega) (by omega) (by omega)]
    exact a
  · have := hc _ _ rfl rfl
    unfold sCo at *
    rw [dBook_19, dBook_20 hf]
    rw [pU_s, pU_n (by decide), pU_s] at this
    exact this
  · rw [dBook_9]
    have fl := sFL_cg (B := dBook B f rc) h.2.2.2.2.2.2.2 (e 4 (by decide) (by decide) (by decide)) (fun k k1 k2 => e k (by omega) (by omega) (by omega))
    rcases h9 with h9 | h9
    · rw [if_pos h9]; exact ⟨by decide, by decide, fl⟩
    · split
      · exact ⟨by decide, by decide, fl⟩
      · exact ⟨h9.1, h9.2, fl⟩
theorem SD_end {rc : Int32} (h : SD K A) : SD K (dEnd rc A) :=
  SD_cg h (fun k hk => dEnd_k (by unfold rel rel0 at hk; omega) (by unfold rel rel0 at hk; omega) (by unfold rel rel0 at hk; omega) (by unfold rel rel0 at hk; omega))
theorem SD_day (hA : WF K A) (h : SD K A) (hK : K < 1000000) : SD (K + 1) (dDay A) := by
  have hB := WF_come (WF_sail hA)
  have hS := SD_come (SD_sail h)
  unfold dDay
  (try dsimp only)
  refine SD_end ?_
  generalize dCome (dSail A) = B at *
  have k0 : SD K (dWk B).2 := by
    by_cases hd : dF B = 4
    · rw [dWk_4 hd]; exact hS
    · rw [dWk_n4 hd]
      exact SD_work hB hS (by have := dF_le B; omega) (fun y => hd (hB.2.2.2.2.2.1.1 y))
  refine SD_book (dF_le B) k0 dWk_1 (by omega) (fun x y hx hy => ?_)
  have e19 : (dWk B).2 19 = B 19 := by
    by_cases hd : dF B = 4
    · rw [dWk_4 hd]
    · rw [dWk_n4 hd, dWork_k (by have := dF_le B; omega) (by omega) (by omega) (by omega) (by omega) (by omega) (by omega) (by omega)]
  have e20 : (dWk B).2 20 = B 20 := by
    by_cases hd : dF B = 4
    · rw [dWk_4 hd]
    · rw [dWk_n4 hd, dWork_k (by have := dF_le B; omega) (by omega) (by omega) (by omega) (by omega) (by omega) (by omega) (by omega)]
  have hz : (if dWts (if (dWk B).1 = 10 then 0 else (dWk B).1) = true then (dWk B).2 (59 + 8 * dF B + 3) else 0) = 0 ∨ (dF B ≠ 4 ∧ (if dWts (if (dWk B).1 = 10 then 0 else (dWk B).1) = true then (dWk B).2 (59 + 8 * dF B + 3) else 0) = B (59 + 8 * dF B + 3)) := by
    by_cases hd : dF B = 4
    · left
      unfold dWk
      rw [if_pos hd]
      by_cases c : B 7 = B 4
      · rw [if_pos c]; rfl
      · rw [if_neg c]; rfl
    · by_cases c : dWts (if (dWk B).1 = 10 then 0 else (dWk B).1) = true
      · right
        refine ⟨hd, ?_⟩
        rw [if_pos c, dWk_n4 hd]
        exact dWork_r3
      · left; rw [if_neg c]
  have cl := cost_le hB hS hz
  rw [← hy, ← hx] at cl
  obtain ⟨s1, s2, s3⟩ := hS.2.2.2.2.1
  unfold sCo
  rw [pU_s, pU_n (by decide), pU_s, e19, e20]
  have b1 : nI (400 * (K + 1)) = nI (400 * K) + 400 := by rw [show 400 * (K + 1) = 400 * K + 400 from by omega, ← nI_add]; rfl
  have b2 : nI (400 * K) ≤ 400000000 := nI_le (b := 400000000) (by omega) (by decide)
  rw [b1]
  refine ⟨by grind, by grind, by grind⟩
theorem WS_day (h : WS K A) (hK : K < 1000000) : WS (K + 1) (dDay A) := ⟨WF_dday h.1 (by omega), SD_day h.1 h.2 hK⟩
theorem WS_days {n : Nat} : ∀ {K : Nat} {A : Pg}, WS K A → K + n ≤ 1000000 → WS (K + n) (dDays n A) := by
  induction n with
  | zero => intro K A h _; exact h
  | succ n ih =>
    intro K A h hK
    have := ih (WS_day h (by omega)) (by omega)
    rw [show K + (n + 1) = K + 1 + n from by omega]
    exact this
end
