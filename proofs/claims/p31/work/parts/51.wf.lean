section
variable {A B : Pg} {K : Nat}
theorem dCome1_n {s k : Nat} (h1 : k ≠ 59 + 8 * s + 5) (h2 : k ≠ 10) : dCome1 s A k = A k := by unfold dCome1; rw [pU_n h2, pU_n h1]
theorem WF_come1 (hA : WF K A) {s : Nat} (hs : s < 4) (hd : dF A = 4) (h7 : A 7 ≠ A 4) (h2 : A (59 + 8 * s + 5) = 2) : WF K (dCome1 s A) := by
  obtain ⟨g1, g2, g3, g4, g5, g6, g7, g8⟩ := hA
  have hp := wFl_pres g1 hs (by rw [h2]; decide)
  have h10 : A 10 = 0 := g6.2.1 hd
  have n10 : dCome1 s A 10 = (if 0 < A 17 then 1 else 0) := by unfold dCome1; exact pU_s
  have n5 : dCome1 s A (59 + 8 * s + 5) = 3 := by unfold dCome1; rw [pU_n (by omega), pU_s]
  have hn : ∀ k, k < 59 → k ≠ 10 → dCome1 s A k = A k := fun k hk hk2 => dCome1_n (by omega) hk2
  have n10' : 0 ≤ dCome1 s A 10 ∧ dCome1 s A 10 ≤ 1 := by rw [n10]; split <;> decide
  refine ⟨wFl_up (wFl_sh g1 hs hp (by decide)) (by decide) (by decide), wTm_up (wTm_up g2 ⟨by omega, by omega⟩) (by decide), ?_, ?_, ?_, ?_, ?_, ?_⟩
  · unfold wGen at g3 ⊢
    rw [hn 1 (by decide) (by decide), hn 2 (by decide) (by decide), hn 3 (by decide) (by decide), hn 4 (by decide) (by decide), hn 6 (by decide) (by decide), hn 7 (by decide) (by decide), hn 8 (by decide) (by decide), hn 11 (by decide) (by decide), hn 17 (by decide) (by decide)]
    obtain ⟨q1, q2, q3, q4, q5, q6, q7, q8, q9, q10⟩ := g3
    exact ⟨q1, q2, q3, q4, q5, q6, q7, ⟨n10'.1, by grind⟩, fun _ => q9 (by rw [h10]; decide), q10⟩
  · intro z hz; rw [hn 7 (by decide) (by decide), hn 4 (by decide) (by decide), hn 8 (by decide) (by decide), hn (23 + 4 * z) (by omega) (by omega)]; exact g4 z hz
  · intro hx; grind
  · obtain ⟨k1, k2, k3⟩ := g6
    have hx : dF (dCome1 s A) ≠ 4 := dF_c1 hs
    refine ⟨?_, fun hq => absurd hq hx, ?_⟩
    · rw [hn 7 (by decide) (by decide), hn 4 (by decide) (by decide)]; exact fun hq => absurd hq h7
    · have n0 : A 64 ≠ 3 ∧ A 72 ≠ 3 ∧ A 80 ≠ 3 ∧ A 88 ≠ 3 := by
        unfold dF at hd
        grind
      have c : s = 0 ∨ s = 1 ∨ s = 2 ∨ s = 3 := by omega
      unfold wOne
      rcases c with rfl | rfl | rfl | rfl <;> simp only [dCome1, pU, Nat.reduceEqDiff, Nat.reduceMul, Nat.reduceAdd] <;> grind
  · intro z hz hm; rw [hn 4 (by decide) (by decide)] at hm; exact wZn_c (fun k hk => hn _ (by omega) (by omega)) (g7 z hz hm)
  · intro t ht
    refine wSh_c (dCome1_n (by omega) (by omega)) (dCome1_n (by omega) (by omega)) (dCome1_n (by omega) (by omega)) ?_ (g8 t ht)
    by_cases e : t = s
    · subst e; rw [n5]; decide
    · rw [dCome1_n (by omega) (by omega)]; exact (g8 t ht).2.2.2
theorem WF_come (hA : WF K A) : WF K (dCome A) := by
  unfold dCome
  split
  · rename_i h
    split
    · rename_i h2; exact WF_come1 hA (s := 0) (by decide) h.1 h.2 h2
    · split
      · rename_i h2; exact WF_come1 hA (s := 1) (by decide) h.1 h.2 h2
      · split
        · rename_i h2; exact WF_come1 hA (s := 2) (by decide) h.1 h.2 h2
        · split
          · rename_i h2; exact WF_come1 hA (s := 3) (by decide) h.1 h.2 h2
          · exact hA
  · exact hA
theorem dCome_n {k : Nat} (hk : k < 59) (h10 : k ≠ 10) : dCome A k = A k := by
  have h : ∀ s, dCome1 s A k = A k := fun s => dCome1_n (by omega) h10
  unfold dCome
  repeat' split
  all_goals first | rfl | exact h _
/-- what the laying needs -/
theorem WF_lay (hA : WF K A) {s : Nat} (hs : s < 4) (h7 : A 7 ≠ A 4) : ∃ z l c v e, wLay A s z l c v e ∧ 0 < e ∧ nI z < A 4 := by
  obtain ⟨g1, g2, g3, g4, g5, g6, g7, g8⟩ := hA
  obtain ⟨q1, q2, q3, q4, q5, q6, q7, q8, q9, q10⟩ := g3
  obtain ⟨z, hz, ez⟩ := exN (n := 8) (x := A 7) q6.1 (by show A 7 ≤ 8; grind) (by decide)
  have hz4 : nI z < A 4 := by rw [← ez]; grind
  obtain ⟨b1, b2, b3, b4⟩ := g7 z (by omega) hz4
  obtain ⟨c1, c2, c3, c4⟩ := g8 s hs
  have hc := g4 z (by omega) ez hz4
  obtain ⟨l, hl, el⟩ := exN (n := 9) b4.1 b4.2 (by decide)
  obtain ⟨c, hcc, ec⟩ := exN (n := 999) c3.1 (by show A (59 + 8 * s + 4) ≤ 999; grind) (by decide)
  obtain ⟨v, hv, ev⟩ := exN (n := 20) c2.1 c2.2 (by decide)
  obtain ⟨e, he, ee⟩ := exN (n := 99) (x := A (23 + 4 * z) - A 8) (by grind) (by show A (23 + 4 * z) - A 8 ≤ 99; grind) (by decide)
  refine ⟨z, l, c, v, e, ⟨by omega, hl, hcc, by omega, he, ez, el, ec, ev, ee⟩, ?_, hz4⟩
  apply Nat.pos_of_ne_zero
  rintro rfl
  rw [nI_0] at ee
  grind
theorem WF_day0 (hA : WF K A) (hK : K < 1000000000) : wDay A := by
  refine ⟨hA.1, hA.2.1, fun hd => ?_⟩
  have h7 : A 7 ≠ A 4 := fun h => hd (hA.2.2.2.2.2.1.1 h)
  have hle := dF_le A
  obtain ⟨z, l, c, v, e, hw, -, -⟩ := WF_lay hA (s := dF A) (by omega) h7
  obtain ⟨q1, q2, q3, q4, q5, q6, q7, q8, q9, q10⟩ := hA.2.2.1
  obtain ⟨d, hd1, hd2⟩ := exN (n := K) q3.1 q3.2 (by omega)
  obtain ⟨w, hw1, hw2⟩ := exN (n := 30) (x := A 6) (by grind) q5.2 (by decide)
  refine ⟨⟨z, l, c, v, e, hw⟩, ⟨d, by omega, hd2⟩, w, ?_, hw1, hw2⟩
  apply Nat.pos_of_ne_zero
  rintro rfl
  rw [nI_0] at hw2
  grind
end
