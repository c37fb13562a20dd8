section
variable {A B : Pg} {K : Nat}
theorem dF_ne {s : Nat} (hs : s < 4) (h3 : A (59 + 8 * s + 5) = 3) : dF A ≠ 4 := by
  have c : s = 0 ∨ s = 1 ∨ s = 2 ∨ s = 3 := by omega
  unfold dF
  rcases c with rfl | rfl | rfl | rfl
  · have h : A 64 = 3 := h3
    grind
  · have h : A 72 = 3 := h3
    grind
  · have h : A 80 = 3 := h3
    grind
  · have h : A 88 = 3 := h3
    grind
theorem dF_at (h : dF A ≠ 4) : A (59 + 8 * dF A + 5) = 3 := by
  unfold dF at h ⊢
  split
  · assumption
  · split
    · assumption
    · split
      · assumption
      · split
        · assumption
        · rename_i a b c d; simp only [a, b, c, d, ↓reduceIte, ne_eq, not_true_eq_false] at h
/-- pages that differ at one ship's aboard and laid, and at what is laid -/
theorem WF_laidG {L : Pg} (hA : WF K A) {s : Nat} (hs : s < 4) (h3 : A (59 + 8 * s + 5) = 3) (h10 : A 10 = 0) (hn : ∀ k, k ≠ 59 + 8 * s + 4 → k ≠ 59 + 8 * s + 7 → k ≠ 17 → k ≠ 18 → k ≠ 8 → k ≠ 7 → L k = A k) (hab : 0 ≤ L (59 + 8 * s + 4) ∧ L (59 + 8 * s + 4) ≤ A (59 + 8 * s + 4)) :
    wFl L ∧ wTm L ∧ wSpl False L ∧ wOne L ∧ dF L ≠ 4 ∧ (∀ z, z < 9 → nI z < L 4 → wZn L z) ∧ ∀ s, s < 4 → wSh L s := by
  obtain ⟨g1, g2, g3, g4, g5, g6, g7, g8⟩ := hA
  have hp := wFl_pres g1 hs (by rw [h3]; decide)
  have e : ∀ k, k < 59 → k ≠ 17 → k ≠ 18 → k ≠ 8 → k ≠ 7 → L k = A k := fun k hk a b c d => hn k (by omega) (by omega) a b c d
  have w : ∀ t, t < 4 → L (59 + 8 * t + 5) = A (59 + 8 * t + 5) := fun t ht => hn _ (by omega) (by omega) (by omega) (by omega) (by omega) (by omega)
  have x0 : L 64 = A 64 := w 0 (by decide)
  have x1 : L 72 = A 72 := w 1 (by decide)
  have x2 : L 80 = A 80 := w 2 (by decide)
  have x3 : L 88 = A 88 := w 3 (by decide)
  refine ⟨⟨by rw [e 5 (by decide) (by decide) (by decide) (by decide) (by decide)]; exact g1.1, fun t ht h6 j hj => ?_⟩, ⟨by rw [e 0 (by decide) (by decide) (by decide) (by decide) (by decide)]; exact g2.1, fun t ht => by rw [e (13 + t) (by omega) (by omega) (by omega) (by omega) (by omega), e 0 (by decide) (by decide) (by decide) (by decide) (by decide)]; exact g2.2 t ht⟩, ?_, ?_, ?_, ?_, ?_⟩
  · rw [e 5 (by decide) (by decide) (by decide) (by decide) (by decide)] at h6
    have ht2 : t ≠ s := fun q => h6 (q ▸ hp)
    rw [hn _ (by omega) (by omega) (by omega) (by omega) (by omega) (by omega)]; exact g1.2 t ht h6 j hj
  · intro hx; rw [e 10 (by decide) (by decide) (by decide) (by decide) (by decide), h10] at hx; exact absurd hx (by decide)
  · unfold wOne; rw [x0, x1, x2, x3]; exact g6.2.2
  · exact dF_ne hs (by rw [w s hs]; exact h3)
  · intro z hz hm
    rw [e 4 (by decide) (by decide) (by decide) (by decide) (by decide)] at hm
    exact wZn_c (fun k hk => e _ (by omega) (by omega) (by omega) (by omega) (by omega)) (g7 z hz hm)
  · intro t ht
    by_cases q : t = s
    · subst q
      have k8 := g8 t ht
      unfold wSh at k8 ⊢
      rw [w t ht, hn (59 + 8 * t) (by omega) (by omega) (by omega) (by omega) (by omega) (by omega), hn (59 + 8 * t + 1) (by omega) (by omega) (by omega) (by omega) (by omega) (by omega)]
      exact ⟨k8.1, k8.2.1, ⟨hab.1, by grind⟩, k8.2.2.2⟩
    · exact wSh_c (hn _ (by omega) (by omega) (by omega) (by omega) (by omega) (by omega)) (hn _ (by omega) (by omega) (by omega) (by omega) (by omega) (by omega)) (hn _ (by omega) (by omega) (by omega) (by omega) (by omega) (by omega)) (by rw [w t ht]; exact (g8 t ht).2.2.2) (g8 t ht)
theorem dLaid_n {s k : Nat} {u : Int32} (h1 : k ≠ 59 + 8 * s + 4) (h2 : k ≠ 59 + 8 * s + 7) (h3 : k ≠ 17) (h4 : k ≠ 18) (h5 : k ≠ 8) : dLaid A s u k = A k := by
  unfold dLaid; (try dsimp only); rw [pU_n h5, pU_n h4, pU_n h3, pU_n h2, pU_n h1]
theorem dLaid_8 {s : Nat} {u : Int32} : dLaid A s u 8 = A 8 + u := by unfold dLaid; (try dsimp only); exact pU_s
theorem dLaid_17 {s : Nat} {u : Int32} : dLaid A s u 17 = A 17 + u := by unfold dLaid; (try dsimp only); rw [pU_n (by decide), pU_n (by decide), pU_s]
theorem dLaid_4 {s : Nat} {u : Int32} : dLaid A s u (59 + 8 * s + 4) = A (59 + 8 * s + 4) - dNeed A (ix (A 7)) u := by
  unfold dLaid; (try dsimp only); rw [pU_n (by omega), pU_n (by omega), pU_n (by omega), pU_n (by omega), pU_s]
/-- how many units are laid -/
theorem dLayU_N {s z l c v e : Nat} (hw : wLay A s z l c v e) : ∃ m, m ≤ v ∧ m ≤ e ∧ dLayU A s = nI m ∧ m + (m * l + 99) / 100 ≤ c ∧ dNeed A (ix (A 7)) (nI m) = nI (m + (m * l + 99) / 100) := by
  obtain ⟨hz, hl, hc, hv, he, h7, h3, h4, h1, hx⟩ := hw
  have e7 : ix (A 7) = z := by rw [h7]; exact ixN (by omega)
  have key : ∀ lim, lim ≤ 99 → lim ≤ v → lim ≤ e → dMost A s z (nI lim) = nI (min lim (100 * c / (100 + l))) ∧ (min lim (100 * c / (100 + l))) + (min lim (100 * c / (100 + l)) * l + 99) / 100 ≤ c := fun lim h hv he =>
    ⟨dMost_N h hl hc h3 h4, mo_a.mpr (Nat.min_le_right _ _)⟩
  unfold dLayU
  dsimp only
  rw [e7, h1, hx]
  by_cases k : nI v < nI e
  · have kv : v < e := (nI_ltI (by omega) (by omega)).mp k
    obtain ⟨k1, k2⟩ := key v hv (by omega) (by omega)
    have : min v (100 * c / (100 + l)) ≤ v := Nat.min_le_left _ _
    rw [if_pos k]
    exact ⟨_, this, by omega, k1, k2, nd_N (by omega) hl h3⟩
  · have kv : ¬ v < e := fun h => k (nI_lt h (by omega))
    obtain ⟨k1, k2⟩ := key e he (by omega) (by omega)
    have : min e (100 * c / (100 + l)) ≤ e := Nat.min_le_left _ _
    rw [if_neg k]
    exact ⟨_, by omega, this, k1, k2, nd_N (by omega) hl h3⟩
theorem WF_layed (hA : WF K A) {s : Nat} (hs : s < 4) (h3 : A (59 + 8 * s + 5) = 3) (h7 : A 7 ≠ A 4) (h10 : A 10 = 0) : WF K (dLay A s).2 := by
  obtain ⟨z, l, c, v, e, hw, he0, hz4⟩ := WF_lay hA hs h7
  obtain ⟨m, hmv, hme, hU, hmc, hN⟩ := dLayU_N hw
  obtain ⟨hz, hl, hc, hv, he, h7z, h3z, h4, h1, hx⟩ := hw
  have e7 : ix (A 7) = z := by rw [h7z]; exact ixN (by omega)
  have hA' := hA
  obtain ⟨g1, g2, g3, g4, g5, g6, g7, g8⟩ := hA'
  unfold dLay
  rw [hU]
  by_cases h0 : nI m = 0
  · rw [if_pos h0]; exact WF_home3 g1 g2 g3 g4 g6.2.2 g7 g8 hs h3
  · rw [if_neg h0, e7]
    obtain ⟨q1, q2, q3, q4, q5, q6, q7, q8, q9, q10⟩ := g3
    have hzn := g7 z hz hz4
    obtain ⟨b1, b2, b3, b4⟩ := hzn
    have c1 := g4 z hz h7z hz4
    have hmI : 0 ≤ nI m ∧ nI m ≤ A (23 + 4 * z) - A 8 ∧ nI m ≤ 99 := by
      rw [hx]; exact ⟨nI_pos' (by omega), nI_le hme (by omega), nI_le (show m ≤ 99 by omega) (by decide)⟩
    have hab : 0 ≤ dLaid A s (nI m) (59 + 8 * s + 4) ∧ dLaid A s (nI m) (59 + 8 * s + 4) ≤ A (59 + 8 * s + 4) := by
      rw [dLaid_4, hN, h4, pk_sub hmc]
      exact ⟨nI_pos' (by omega), nI_le (by omega) (by omega)⟩
    have hL := WF_laidG (L := dLaid A s (nI m)) hA hs h3 h10 (fun k a b cc d f _ => dLaid_n a b cc d f) hab
    obtain ⟨l1, l2, l3, l4, l5, l6, l7⟩ := hL
    have n : ∀ k, k < 17 → k ≠ 8 → dLaid A s (nI m) k = A k := fun k hk hk2 => dLaid_n (by omega) (by omega) (by omega) (by omega) hk2
    have n4 := n 4 (by decide) (by decide)
    have n7 := n 7 (by decide) (by decide)
    have n8 : dLaid A s (nI m) 8 = A 8 + nI m := dLaid_8
    have n17 : dLaid A s (nI m) 17 = A 17 + nI m := dLaid_17
    have nz : dLaid A s (nI m) (23 + 4 * z) = A (23 + 4 * z) := dLaid_n (by omega) (by omega) (by omega) (by omega) (by omega)
    have hgen : A 8 + nI m ≠ A (23 + 4 * z) → wGen K (dLaid A s (nI m)) := fun hne => by
      unfold wGen; rw [n 1 (by decide) (by decide), n 2 (by decide) (by decide), n 3 (by decide) (by decide), n4, n 6 (by decide) (by decide), n7, n8, n 10 (by decide) (by decide), n 11 (by decide) (by decide), n17]
      refine ⟨q1, q2, q3, q4, q5, q6, ⟨by grind, by grind, fun x => absurd x h7⟩, q8, q9, ⟨by grind, by grind⟩⟩
    by_cases hq : dLaid A s (nI m) 8 = A (23 + 4 * z)
    · rw [if_pos hq]
      rw [n8] at hq
      have hB := WF_laidG (L := pU (pU (dLaid A s (nI m)) 7 (dLaid A s (nI m) 7 + 1)) 8 0) hA hs h3 h10 (fun k a b cc d f g => by rw [pU_n f, pU_n g]; exact dLaid_n a b cc d f) (by rw [pU_n (by omega), pU_n (by omega)]; exact hab)
      obtain ⟨k1, k2, k3, k4, k5, k6, k7⟩ := hB
      have p : ∀ k, k < 17 → k ≠ 8 → k ≠ 7 → pU (pU (dLaid A s (nI m)) 7 (dLaid A s (nI m) 7 + 1)) 8 0 k = A k := fun k hk a b => by rw [pU_n a, pU_n b]; exact n k hk a
      have p7 : pU (pU (dLaid A s (nI m)) 7 (dLaid A s (nI m) 7 + 1)) 8 0 7 = A 7 + 1 := by rw [pU_n (by decide), pU_s, n7]
      have p8 : pU (pU (dLaid A s (nI m)) 7 (dLaid A s (nI m) 7 + 1)) 8 0 8 = 0 := pU_s
      have p17 : pU (pU (dLaid A s (nI m)) 7 (dLaid A s (nI m) 7 + 1)) 8 0 17 = A 17 + nI m := by rw [pU_n (by decide), pU_n (by decide), n17]
      have p5 : pU (pU (dLaid A s (nI m)) 7 (dLaid A s (nI m) 7 + 1)) 8 0 (59 + 8 * s + 5) = 3 := by rw [pU_n (by omega), pU_n (by omega), dLaid_n (by omega) (by omega) (by omega) (by omega) (by omega)]; exact h3
      have hpl : ∀ y, y < 9 → pU (pU (dLaid A s (nI m)) 7 (dLaid A s (nI m) 7 + 1)) 8 0 (23 + 4 * y) = A (23 + 4 * y) := fun y hy => by rw [pU_n (by omega), pU_n (by omega), dLaid_n (by omega) (by omega) (by omega) (by omega) (by omega)]
      have hg : wGen K (pU (pU (dLaid A s (nI m)) 7 (dLaid A s (nI m) 7 + 1)) 8 0) := by
        unfold wGen; rw [p 1 (by decide) (by decide) (by decide), p 2 (by decide) (by decide) (by decide), p 3 (by decide) (by decide) (by decide), p 4 (by decide) (by decide) (by decide), p 6 (by decide) (by decide) (by decide), p7, p8, p 10 (by decide) (by decide) (by decide), p 11 (by decide) (by decide) (by decide), p17]
        refine ⟨q1, q2, q3, q4, q5, ⟨by grind, by grind⟩, ⟨by decide, by decide, fun _ => rfl⟩, q8, q9, ⟨by grind, by grind⟩⟩
      have hc' : wCur (pU (pU (dLaid A s (nI m)) 7 (dLaid A s (nI m) 7 + 1)) 8 0) := by
        intro y hy a b
        rw [p 4 (by decide) (by decide) (by decide)] at b
        rw [p8, hpl y hy]
        have := (g7 y hy b).1.1
        grind
      unfold dNext
      dsimp only
      by_cases hf : pU (pU (dLaid A s (nI m)) 7 (dLaid A s (nI m) 7 + 1)) 8 0 7 = pU (pU (dLaid A s (nI m)) 7 (dLaid A s (nI m) 7 + 1)) 8 0 4
      · rw [if_pos hf]; exact WF_home3 k1 k2 hg hc' k4 k6 k7 hs p5
      · rw [if_neg hf]; exact ⟨k1, k2, hg, hc', k3, ⟨fun x => absurd x hf, fun x => absurd x k5, k4⟩, k6, k7⟩
    · rw [if_neg hq]
      rw [n8] at hq
      show WF K (dLaid A s (nI m))
      refine ⟨l1, l2, hgen hq, ?_, l3, ⟨fun x => ?_, fun x => absurd x l5, l4⟩, l6, l7⟩
      · intro y hy a b
        rw [n7] at a
        rw [n4] at b
        have ey : y = z := by
          have := h7z.symm.trans a
          exact ((nI_eq (by omega) (by omega)).mp this).symm
        subst ey
        rw [n8, nz]
        grind
      · rw [n7, n4] at x; exact absurd x h7
end
