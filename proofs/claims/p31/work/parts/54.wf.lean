section
variable {A B : Pg} {K : Nat}
theorem WG_f {b : Prop} (hb : ¬ b) (hA : WF K A) : WG b K A := by
  obtain ⟨g1, g2, g3, g4, g5, g6, g7, g8⟩ := hA
  exact ⟨g1, g2, g3, g4, fun h => ⟨fun x => absurd x hb, fun _ => (g5 h).2.1 (fun x => x), (g5 h).2.2⟩, g6, g7, g8⟩
theorem rs_free (h : wTm A) (h10 : A 10 ≠ 2) (hf : dFree A ≠ 0) : rs A < A 0 := by
  have a1 := h.2 1 (by decide)
  have a2 := h.2 2 (by decide)
  have e1 : nI 1 = 1 := rfl
  have e2 : nI 2 = 2 := rfl
  have i1 : (1 : Int32) ≠ A 0 → A 0 = 2 ∨ A 0 = 3 := by have := h.1; grind
  rw [e1] at a1
  rw [e2] at a2
  simp only [Nat.reduceAdd] at a1 a2
  unfold rs
  unfold dFree at hf
  rw [if_neg h10] at hf
  rcases h.1 with q | q | q <;> rw [q] at hf a1 a2 ⊢ <;> grind
theorem WF_work (hA : WF K A) (hd : dF A ≠ 4) : WG ((dWork A (dF A)).1 = 10) K (dWork A (dF A)).2 := by
  have hA' := hA
  obtain ⟨g1, g2, g3, g4, g5, g6, g7, g8⟩ := hA'
  obtain ⟨q1, q2, q3, q4, q5, q6, q7, q8, q9, q10⟩ := g3
  have hle := dF_le A
  have h3 := dF_at hd
  have h7 : A 7 ≠ A 4 := fun h => hd (g6.1 h)
  unfold dWork
  by_cases k1 : A 10 = 2
  · obtain ⟨-, r1, r2, r3⟩ := g5 k1
    have r1 := r1 (fun x => x)
    rw [if_pos k1]
    by_cases k2 : A 11 - 1 = 0
    · rw [if_pos k2]
      exact WG_spl (B := pU A 11 (A 11 - 1)) hA (fun k a b => pU_n b) hd (by rw [pU_n (by decide)]; exact k1) ⟨fun _ => by rw [pU_s]; exact k2, fun x => absurd rfl x, by rw [pU_s, k2]; decide⟩ r3
    · rw [if_neg k2]
      exact WG_spl (B := pU A 11 (A 11 - 1)) hA (fun k a b => pU_n b) hd (by rw [pU_n (by decide)]; exact k1) ⟨fun x => absurd x (show ¬ (0 : Int32) = 10 by decide), fun x => by rw [pU_s]; grind, by rw [pU_s]; grind⟩ r3
  · rw [if_neg k1]
    by_cases k2 : A 10 = 1
    · rw [if_pos k2]
      by_cases k3 : dFree A = 0 ∨ 3 < dWav A (A 3)
      · rw [if_pos k3]; exact WG_f (show ¬ (5 : Int32) = 10 by decide) hA
      · rw [if_neg k3]
        have hr := rs_free g2 k1 (fun x => k3 (Or.inl x))
        by_cases k4 : A 1 - 1 = 0
        · rw [if_pos k4]
          exact WG_spl (B := pU (pU A 10 2) 11 (A 1 - 1)) hA (fun k a b => by rw [pU_n b, pU_n a]) hd (by rw [pU_n (by decide), pU_s]) ⟨fun _ => by rw [pU_s]; exact k4, fun x => absurd rfl x, by rw [pU_s, k4]; decide⟩ hr
        · rw [if_neg k4]
          exact WG_spl (B := pU (pU A 10 2) 11 (A 1 - 1)) hA (fun k a b => by rw [pU_n b, pU_n a]) hd (by rw [pU_n (by decide), pU_s]) ⟨fun x => absurd x (show ¬ (0 : Int32) = 10 by decide), fun x => by rw [pU_s]; grind, by rw [pU_s]; grind⟩ hr
    · rw [if_neg k2]
      by_cases k3 : A 3 < A (23 + 4 * ix (A 7) + 1)
      · rw [if_pos k3]; exact WG_f (show ¬ (1 : Int32) = 10 by decide) hA
      · rw [if_neg k3]
        by_cases k4 : A (23 + 4 * ix (A 7) + 2) < A 3
        · rw [if_pos k4]; exact WG_f (show ¬ (2 : Int32) = 10 by decide) hA
        · rw [if_neg k4]
          by_cases k5 : A (59 + 8 * dF A + 2) < dWav A (A 3)
          · rw [if_pos k5]; exact WG_f (show ¬ (3 : Int32) = 10 by decide) hA
          · rw [if_neg k5]
            refine WG_f ?_ (WF_layed hA (by omega) h3 h7 (by grind))
            unfold dLay
            split
            · show ¬ (4 : Int32) = 10; decide
            · show ¬ (0 : Int32) = 10; decide
theorem dRest_n {k : Nat} (h : k < 13 ∨ 15 < k) : dRest A k = A k := by
  unfold dRest; rw [dRest1_n (by omega), dRest1_n (by omega), dRest1_n (by omega)]
theorem rs_rest (h : wTm A) : rs (dRest A) ≤ rs A := by
  have a0 := (h.2 0 (by decide)).1
  have a1 := (h.2 1 (by decide)).1
  have a2 := (h.2 2 (by decide)).1
  simp only [Nat.reduceAdd] at a0 a1 a2
  have e0 : dRest A 13 = (if 0 < A 13 then A 13 - 1 else A 13) := by
    unfold dRest; rw [dRest1_n (by decide), dRest1_n (by decide)]; unfold dRest1; exact pU_s
  have e1 : dRest A 14 = (if 0 < A 14 then A 14 - 1 else A 14) := by
    unfold dRest; rw [dRest1_n (by decide)]; unfold dRest1; rw [pU_n (by decide : (14 : Nat) ≠ 13 + 0)]
    exact (pU_s (i := 14))
  have e2 : dRest A 15 = (if 0 < A 15 then A 15 - 1 else A 15) := by
    have z : dRest1 1 (dRest1 0 A) 15 = A 15 := by rw [dRest1_n (by decide), dRest1_n (by decide)]
    unfold dRest
    refine Eq.trans (b := if 0 < dRest1 1 (dRest1 0 A) 15 then dRest1 1 (dRest1 0 A) 15 - 1 else dRest1 1 (dRest1 0 A) 15) ?_ (by rw [z])
    generalize dRest1 1 (dRest1 0 A) = C
    unfold dRest1; exact pU_s
  unfold rs
  rw [e0, e1, e2]
  rcases a0 with q0 | q0 | q0 <;> rcases a1 with q1 | q1 | q1 <;> rcases a2 with q2 | q2 | q2 <;> rw [q0, q1, q2] <;> decide
/-- pages that differ at the rests alone -/
theorem WG_rst {b : Prop} (hA : WG b K A) (h : ∀ k, k < 13 ∨ 15 < k → B k = A k) (ht : wTm B) (hr : A 10 = 2 → rs B < A 0) : WG b K B := by
  obtain ⟨g1, g2, g3, g4, g5, g6, g7, g8⟩ := hA
  refine ⟨⟨by rw [h 5 (by decide)]; exact g1.1, fun s hs h6 j hj => by rw [h _ (by omega)]; rw [h 5 (by decide)] at h6; exact g1.2 s hs h6 j hj⟩, ht, ?_, ?_, ?_, ?_, ?_, ?_⟩
  · unfold wGen; rw [h 1 (by decide), h 2 (by decide), h 3 (by decide), h 4 (by decide), h 6 (by decide), h 7 (by decide), h 8 (by decide), h 10 (by decide), h 11 (by decide), h 17 (by decide)]; exact g3
  · intro z hz; rw [h 7 (by decide), h 4 (by decide), h 8 (by decide), h (23 + 4 * z) (by omega)]; exact g4 z hz
  · unfold wSpl; rw [h 10 (by decide), h 11 (by decide), h 0 (by decide)]
    intro hx; exact ⟨(g5 hx).1, (g5 hx).2.1, (g5 hx).2.2.1, hr hx⟩
  · have e0 := h 64 (by decide)
    have e1 := h 72 (by decide)
    have e2 := h 80 (by decide)
    have e3 := h 88 (by decide)
    unfold wFr wOne
    rw [dF_cg (A := A) (B := B) (by rw [e0]) (by rw [e1]) (by rw [e2]) (by rw [e3]), h 7 (by decide), h 4 (by decide), h 10 (by decide), e0, e1, e2, e3]
    exact g6
  · intro z hz hm; rw [h 4 (by decide)] at hm; exact wZn_c (fun k hk => h _ (by omega)) (g7 z hz hm)
  · intro s hs; exact wSh_c (h _ (by omega)) (h _ (by omega)) (h _ (by omega)) (by rw [h _ (by omega)]; exact (g8 s hs).2.2.2) (g8 s hs)
theorem WG_rest {b : Prop} (hA : WG b K A) : WG b K (dRest A) :=
  WG_rst hA (fun k hk => dRest_n hk) (wTm_r (wTm_r (wTm_r hA.2.1 (by decide)) (by decide)) (by decide)) (fun h => by
    have h1 := (hA.2.2.2.2.1 h).2.2.2
    have h2 := rs_rest hA.2.1
    grind)
theorem wTm_ro (h : wTm A) : wTm (dRestOn A) := by
  have c1 : nI 1 < A 0 ↔ (1 : Int32) < A 0 := Iff.rfl
  have c2 : nI 2 < A 0 ↔ (2 : Int32) < A 0 := Iff.rfl
  have c0 : nI 0 < A 0 := by rcases h.1 with h5 | h5 | h5 <;> rw [h5] <;> decide
  have g : ∀ t, t < 3 → nI t < A 0 → wTm (pU A (13 + t) 2) := fun t ht hlt => by
    refine ⟨by rw [pU_n (by omega)]; exact h.1, fun j hj => ?_⟩
    rw [pU_n (by omega : 0 ≠ 13 + t)]
    by_cases e : j = t
    · subst e; rw [pU_s]; exact ⟨Or.inr (Or.inr rfl), fun x => absurd hlt x⟩
    · rw [pU_n (by omega)]; exact h.2 j hj
  unfold dRestOn
  split
  · exact g 0 (by decide) c0
  · split
    · rename_i x; exact g 1 (by decide) (c1.mpr x.1)
    · split
      · rename_i x; exact g 2 (by decide) (c2.mpr x.1)
      · exact h
theorem dRestOn_n {k : Nat} (h : k < 13 ∨ 15 < k) : dRestOn A k = A k := by
  unfold dRestOn
  repeat' split
  all_goals first | rfl | rw [pU_n (by omega)]
theorem WF_3 {b : Prop} (hA : WG b K A) (hK : K < 1000000000) : WG b (K + 1) (pU A 3 (A 3 + 1)) := by
  obtain ⟨g1, g2, g3, g4, g5, g6, g7, g8⟩ := hA
  have h : ∀ k, k ≠ 3 → pU A 3 (A 3 + 1) k = A k := fun k hk => pU_n hk
  refine ⟨wFl_up g1 (by decide) (by decide), wTm_up g2 (by decide), ?_, ?_, ?_, ?_, ?_, ?_⟩
  · unfold wGen at g3 ⊢; rw [h 1 (by decide), h 2 (by decide), pU_s, h 4 (by decide), h 6 (by decide), h 7 (by decide), h 8 (by decide), h 10 (by decide), h 11 (by decide), h 17 (by decide)]
    obtain ⟨q1, q2, q3, q4, q5, q6, q7, q8, q9, q10⟩ := g3
    refine ⟨q1, q2, ?_, q4, q5, q6, q7, q8, q9, q10⟩
    obtain ⟨d, hd1, hd2⟩ := exN (n := K) q3.1 q3.2 (by omega)
    rw [hd2, ad1]
    exact ⟨nI_pos' (by omega), nI_le (by omega) (by omega)⟩
  · intro z hz; rw [h 7 (by decide), h 4 (by decide), h 8 (by decide), h (23 + 4 * z) (by omega)]; exact g4 z hz
  · unfold wSpl rs; rw [h 10 (by decide), h 11 (by decide), h 0 (by decide), h 13 (by decide), h 14 (by decide), h 15 (by decide)]; exact g5
  · have e0 := h 64 (by decide)
    have e1 := h 72 (by decide)
    have e2 := h 80 (by decide)
    have e3 := h 88 (by decide)
    unfold wFr wOne
    rw [dF_cg (A := A) (B := pU A 3 (A 3 + 1)) (by rw [e0]) (by rw [e1]) (by rw [e2]) (by rw [e3]), h 7 (by decide), h 4 (by decide), h 10 (by decide), e0, e1, e2, e3]
    exact g6
  · intro z hz hm; rw [h 4 (by decide)] at hm; exact wZn_c (fun k hk => h _ (by omega)) (g7 z hz hm)
  · intro s hs; exact wSh_c (h _ (by omega)) (h _ (by omega)) (h _ (by omega)) (by rw [h _ (by omega)]; exact (g8 s hs).2.2.2) (g8 s hs)
/-- the splice is written: none is under way -/
theorem WF_10 {b : Prop} {v : Int32} (hb : b) (hA : WG b K A) : WF K (pU (pU A 10 0) 12 v) := by
  have hA' := hA
  obtain ⟨g1, g2, g3, g4, g5, g6, g7, g8⟩ := hA'
  have h : ∀ k, k ≠ 10 → k ≠ 12 → pU (pU A 10 0) 12 v k = A k := fun k a c => by rw [pU_n c, pU_n a]
  have h10 : pU (pU A 10 0) 12 v 10 = 0 := by rw [pU_n (by decide), pU_s]
  refine ⟨wFl_up (wFl_up g1 (by decide) (by decide)) (by decide) (by decide), wTm_up (wTm_up g2 (by decide)) (by decide), ?_, ?_, ?_, ?_, ?_, ?_⟩
  · unfold wGen at g3 ⊢; rw [h 1 (by decide) (by decide), h 2 (by decide) (by decide), h 3 (by decide) (by decide), h 4 (by decide) (by decide), h 6 (by decide) (by decide), h 7 (by decide) (by decide), h 8 (by decide) (by decide), h10, h 11 (by decide) (by decide), h 17 (by decide) (by decide)]
    obtain ⟨q1, q2, q3, q4, q5, q6, q7, q8, q9, q10⟩ := g3
    refine ⟨q1, q2, q3, q4, q5, q6, q7, ⟨by decide, by decide⟩, fun _ => ?_, q10⟩
    by_cases k : A 10 = 2
    · exact (g5 k).1 hb
    · exact q9 k
  · intro z hz; rw [h 7 (by decide) (by decide), h 4 (by decide) (by decide), h 8 (by decide) (by decide), h (23 + 4 * z) (by omega) (by omega)]; exact g4 z hz
  · intro hx; rw [h10] at hx; exact absurd hx (by decide)
  · have e0 := h 64 (by decide) (by decide)
    have e1 := h 72 (by decide) (by decide)
    have e2 := h 80 (by decide) (by decide)
    have e3 := h 88 (by decide) (by decide)
    unfold wFr wOne
    rw [dF_cg (A := A) (B := pU (pU A 10 0) 12 v) (by rw [e0]) (by rw [e1]) (by rw [e2]) (by rw [e3]), h 7 (by decide) (by decide), h 4 (by decide) (by decide), h10, e0, e1, e2, e3]
    exact ⟨g6.1, fun _ => rfl, g6.2.2⟩
  · intro z hz hm; rw [h 4 (by decide) (by decide)] at hm; exact wZn_c (fun k hk => h _ (by omega) (by omega)) (g7 z hz hm)
  · intro s hs; exact wSh_c (h _ (by omega) (by omega)) (h _ (by omega) (by omega)) (h _ (by omega) (by omega)) (by rw [h _ (by omega) (by omega)]; exact (g8 s hs).2.2.2) (g8 s hs)
theorem WF_end {rc : Int32} (hA : WG (rc = 10) K A) (hK : K < 1000000000) : WF (K + 1) (dEnd rc A) := by
  have hC := WG_rest hA
  unfold dEnd
  dsimp only
  generalize dRest A = C at *
  by_cases h : rc = 10
  · rw [if_pos h]
    have h1 : WF K (pU (pU C 10 0) 12 (C 12 + 1)) := WF_10 h hC
    refine WF_3 (WG_rst h1 (fun k hk => dRestOn_n hk) (wTm_ro h1.2.1) (fun x => ?_)) hK
    rw [pU_n (by decide), pU_s] at x
    exact absurd x (by decide)
  · rw [if_neg h]
    refine WF_3 ?_ hK
    obtain ⟨g1, g2, g3, g4, g5, g6, g7, g8⟩ := hC
    exact ⟨g1, g2, g3, g4, fun x => ⟨fun y => y.elim, fun _ => (g5 x).2.1 h, (g5 x).2.2⟩, g6, g7, g8⟩
theorem WF_dday (hA : WF K A) (hK : K < 1000000000) : WF (K + 1) (dDay A) := by
  have hB := WF_come (WF_sail hA)
  unfold dDay
  dsimp only
  generalize dCome (dSail A) = B at *
  refine WF_end ?_ hK
  rw [dBook_b]
  have hW : WG ((dWk B).1 = 10) K (dWk B).2 := by
    unfold dWk
    by_cases h : dF B = 4
    · rw [if_pos h]
      refine WG_f ?_ hB
      show ¬ (if B 7 = B 4 then (0 : Int32) else 6) = 10
      split <;> decide
    · rw [if_neg h]; exact WF_work hB h
  refine WG_cong hW (fun k hk => ?_)
  unfold irr at hk
  rw [bk_n (by omega) (by omega), pU_n (by omega)]
end
